section
variable {p : Program} {l : Launch} {e : Env} {s : State} {m : MethodId} {args : Array Value} {below : List Frame} {meth : Method} {c : Code} {G : Geo}
set_option maxRecDepth 100000 in
set_option maxHeartbeats 8000000 in
theorem b_L_areApart_180 {u : Nat} {v4 : Nat} {rv : Int32} {Mf : Mem} {k4 : Int32 → Int32 → Mem → Option (Int32 × Mem)} {x2 : Int32} {z0 : Int32} {M : Mem} (hC : Cx p s m args c cL_areApart RL 5 G) (hr : meth.sig.returnType = some .boolean) (hlk : meth.locks = false) (hX : XF G s) (hlt : l.stackTraces = false) (hk4 : ∀ (u : Nat) (x1 : Int32) (x2 : Int32) (M : Mem), u + v4 ≤ 6347 → k4 x1 x2 M = some (rv, Mf) → V p l e (rmc 12 6347) s m args below meth c 5 G (u) (6 * (u)) (MQ below (gQ G (some (.int rv)) Mf) args s 6347 (6 * 6347) (gA G)) 4 [(0, .ref (adr G 6 0)), (1, .int x1), (2, .int x2)] [] M) (hv4 : 0 ≤ v4) (hu : u + (0 + v4) ≤ 6347) (h : B_L_areApart_180 k4 x2 z0 M = some (rv, Mf)) : V p l e (rmc 12 6347) s m args below meth c 5 G (u) (6 * (u)) (MQ below (gQ G (some (.int rv)) Mf) args s 6347 (6 * 6347) (gA G)) 180 [(0, .ref (adr G 6 0)), (2, .int x2)] [.int z0] M := by
  refine V_istore_n hC ([(1, .int z0), (0, .ref (adr G 6 0)), (2, .int x2)]) dL_areApart_180 rfl (by decide) rfl ?_
  refine V_iinc hC (x2 + 1) ([(2, .int (x2 + 1)), (1, .int z0), (0, .ref (adr G 6 0))]) dL_areApart_181 2 rfl rfl (by decide) rfl ?_
  refine V_goto hC 4 dL_areApart_184 (by decide) ?_
  refine V_sub [2, 1, 0] rfl ?_
  refine V_widen (k := u + 0) (n := 6 * (u + 0)) (by omega) (by omega) ?_
  exact hk4 _ _ _ _ (by omega) h
set_option maxRecDepth 100000 in
set_option maxHeartbeats 8000000 in
theorem b_L_areApart_179 {u : Nat} {v4 : Nat} {rv : Int32} {Mf : Mem} {k4 : Int32 → Int32 → Mem → Option (Int32 × Mem)} {x2 : Int32} {M : Mem} (hC : Cx p s m args c cL_areApart RL 5 G) (hr : meth.sig.returnType = some .boolean) (hlk : meth.locks = false) (hX : XF G s) (hlt : l.stackTraces = false) (hk4 : ∀ (u : Nat) (x1 : Int32) (x2 : Int32) (M : Mem), u + v4 ≤ 6347 → k4 x1 x2 M = some (rv, Mf) → V p l e (rmc 12 6347) s m args below meth c 5 G (u) (6 * (u)) (MQ below (gQ G (some (.int rv)) Mf) args s 6347 (6 * 6347) (gA G)) 4 [(0, .ref (adr G 6 0)), (1, .int x1), (2, .int x2)] [] M) (hv4 : 0 ≤ v4) (hu : u + (0 + v4) ≤ 6347) (h : B_L_areApart_179 k4 x2 M = some (rv, Mf)) : V p l e (rmc 12 6347) s m args below meth c 5 G (u) (6 * (u)) (MQ below (gQ G (some (.int rv)) Mf) args s 6347 (6 * 6347) (gA G)) 179 [(0, .ref (adr G 6 0)), (2, .int x2)] [] M := by
  refine V_iconst hC (0 : Int32) dL_areApart_179 (by decide) ?_
  refine V_widen (k := u + 0) (n := 6 * (u + 0)) (by omega) (by omega) ?_
  exact b_L_areApart_180 hC hr hlk hX hlt hk4 hv4 (by omega) h
set_option maxRecDepth 100000 in
set_option maxHeartbeats 8000000 in
theorem b_L_areApart_175 {u : Nat} {v4 : Nat} {rv : Int32} {Mf : Mem} {k4 : Int32 → Int32 → Mem → Option (Int32 × Mem)} {x2 : Int32} {M : Mem} (hC : Cx p s m args c cL_areApart RL 5 G) (hr : meth.sig.returnType = some .boolean) (hlk : meth.locks = false) (hX : XF G s) (hlt : l.stackTraces = false) (hk4 : ∀ (u : Nat) (x1 : Int32) (x2 : Int32) (M : Mem), u + v4 ≤ 6347 → k4 x1 x2 M = some (rv, Mf) → V p l e (rmc 12 6347) s m args below meth c 5 G (u) (6 * (u)) (MQ below (gQ G (some (.int rv)) Mf) args s 6347 (6 * 6347) (gA G)) 4 [(0, .ref (adr G 6 0)), (1, .int x1), (2, .int x2)] [] M) (hv4 : 0 ≤ v4) (hu : u + (0 + v4) ≤ 6347) (h : B_L_areApart_175 k4 x2 M = some (rv, Mf)) : V p l e (rmc 12 6347) s m args below meth c 5 G (u) (6 * (u)) (MQ below (gQ G (some (.int rv)) Mf) args s 6347 (6 * 6347) (gA G)) 175 [(0, .ref (adr G 6 0)), (2, .int x2)] [] M := by
  refine V_iconst hC (1 : Int32) dL_areApart_175 (by decide) ?_
  refine V_goto hC 180 dL_areApart_176 (by decide) ?_
  refine V_widen (k := u + 0) (n := 6 * (u + 0)) (by omega) (by omega) ?_
  exact b_L_areApart_180 hC hr hlk hX hlt hk4 hv4 (by omega) h
set_option maxRecDepth 100000 in
set_option maxHeartbeats 8000000 in
theorem b_L_areApart_158 {u : Nat} {v4 : Nat} {rv : Int32} {Mf : Mem} {k4 : Int32 → Int32 → Mem → Option (Int32 × Mem)} {x2 : Int32} {M : Mem} (hC : Cx p s m args c cL_areApart RL 5 G) (hr : meth.sig.returnType = some .boolean) (hlk : meth.locks = false) (hX : XF G s) (hlt : l.stackTraces = false) (hk4 : ∀ (u : Nat) (x1 : Int32) (x2 : Int32) (M : Mem), u + v4 ≤ 6347 → k4 x1 x2 M = some (rv, Mf) → V p l e (rmc 12 6347) s m args below meth c 5 G (u) (6 * (u)) (MQ below (gQ G (some (.int rv)) Mf) args s 6347 (6 * 6347) (gA G)) 4 [(0, .ref (adr G 6 0)), (1, .int x1), (2, .int x2)] [] M) (hv4 : 0 ≤ v4) (hu : u + (2 + v4) ≤ 6347) (h : B_L_areApart_158 k4 x2 M = some (rv, Mf)) : V p l e (rmc 12 6347) s m args below meth c 5 G (u) (6 * (u)) (MQ below (gQ G (some (.int rv)) Mf) args s 6347 (6 * 6347) (gA G)) 158 [(0, .ref (adr G 6 0)), (2, .int x2)] [] M := by
  refine V_aload_n hC dL_areApart_158 rfl 0 rfl ?_
  refine V_iload_n hC dL_areApart_159 rfl 1 rfl ?_
  refine V_iconst hC (4 : Int32) dL_areApart_160 (by decide) ?_
  obtain ⟨q11, e11, h⟩ := bind_some h
  refine V_cW hC hX [.ref (adr G 6 0), .int x2, .int (4 : Int32)] (c_L_checkOut (l := l) (rv := q11.1) (Mf := q11.2) hlt hC.2.2.2.2.2.2.2 e11) kx_L_checkOut gw_1014 gw_1013 ⟨Nat.le_of_ble_eq_true rfl, Nat.le_of_ble_eq_true rfl⟩ rfl (Nat.le_of_ble_eq_true rfl) dL_areApart_161 ⟨by show _ ≤ 6347; omega, by show _ ≤ 6 * 6347; omega⟩ rfl ?_
  refine V_if_ne hC 179 dL_areApart_164 (by decide) (fun c12 => ?_) (fun c12 => ?_)
  · have h := ite_f c12 h
    refine V_widen (k := u + 1) (n := 6 * (u + 1)) (by omega) (by omega) ?_
    exact b_L_areApart_179 hC hr hlk hX hlt hk4 hv4 (by omega) h
  · have h := ite_t c12 h
    refine V_aload_n hC dL_areApart_167 rfl 0 rfl ?_
    refine V_iload_n hC dL_areApart_168 rfl 1 rfl ?_
    obtain ⟨q13, e13, h⟩ := bind_some h
    refine V_cW hC hX [.ref (adr G 6 0), .int x2] (c_L_ifBroken (l := l) (rv := q13.1) (Mf := q13.2) hlt hC.2.2.2.2.2.2.2 e13) kx_L_ifBroken gw_1086 gw_1085 ⟨Nat.le_of_ble_eq_true rfl, Nat.le_of_ble_eq_true rfl⟩ rfl (Nat.le_of_ble_eq_true rfl) dL_areApart_169 ⟨by show _ ≤ 6347; omega, by show _ ≤ 6 * 6347; omega⟩ rfl ?_
    refine V_if_ne hC 179 dL_areApart_172 (by decide) (fun c14 => ?_) (fun c14 => ?_)
    · have h := ite_f c14 h
      refine V_widen (k := u + 2) (n := 6 * (u + 2)) (by omega) (by omega) ?_
      exact b_L_areApart_179 hC hr hlk hX hlt hk4 hv4 (by omega) h
    · have h := ite_t c14 h
      refine V_widen (k := u + 2) (n := 6 * (u + 2)) (by omega) (by omega) ?_
      exact b_L_areApart_175 hC hr hlk hX hlt hk4 hv4 (by omega) h
set_option maxRecDepth 100000 in
set_option maxHeartbeats 8000000 in
theorem b_L_areApart_127 {u : Nat} {v4 : Nat} {rv : Int32} {Mf : Mem} {k4 : Int32 → Int32 → Mem → Option (Int32 × Mem)} {x1 : Int32} {x2 : Int32} {M : Mem} (hC : Cx p s m args c cL_areApart RL 5 G) (hr : meth.sig.returnType = some .boolean) (hlk : meth.locks = false) (hX : XF G s) (hlt : l.stackTraces = false) (hk4 : ∀ (u : Nat) (x1 : Int32) (x2 : Int32) (M : Mem), u + v4 ≤ 6347 → k4 x1 x2 M = some (rv, Mf) → V p l e (rmc 12 6347) s m args below meth c 5 G (u) (6 * (u)) (MQ below (gQ G (some (.int rv)) Mf) args s 6347 (6 * 6347) (gA G)) 4 [(0, .ref (adr G 6 0)), (1, .int x1), (2, .int x2)] [] M) (hv4 : 0 ≤ v4) (hu : u + (5 + v4) ≤ 6347) (h : B_L_areApart_127 k4 x1 x2 M = some (rv, Mf)) : V p l e (rmc 12 6347) s m args below meth c 5 G (u) (6 * (u)) (MQ below (gQ G (some (.int rv)) Mf) args s 6347 (6 * 6347) (gA G)) 127 [(0, .ref (adr G 6 0)), (1, .int x1), (2, .int x2)] [] M := by
  refine V_iload_n hC dL_areApart_127 rfl 1 rfl ?_
  refine V_if_eq hC 179 dL_areApart_128 (by decide) (fun c6 => ?_) (fun c6 => ?_)
  · have h := ite_t c6 h
    refine V_sub [0, 2] rfl ?_
    refine V_widen (k := u + 0) (n := 6 * (u + 0)) (by omega) (by omega) ?_
    exact b_L_areApart_179 hC hr hlk hX hlt hk4 hv4 (by omega) h
  · have h := ite_f c6 h
    refine V_aload_n hC dL_areApart_131 rfl 0 rfl ?_
    refine V_iload_n hC dL_areApart_132 rfl 2 rfl ?_
    refine V_iconst hC (3 : Int32) dL_areApart_133 (by decide) ?_
    obtain ⟨q7, e7, h⟩ := bind_some h
    refine V_cW hC hX [.ref (adr G 6 0), .int x2, .int (3 : Int32)] (c_L_checkOut (l := l) (rv := q7.1) (Mf := q7.2) hlt hC.2.2.2.2.2.2.2 e7) kx_L_checkOut gw_1014 gw_1013 ⟨Nat.le_of_ble_eq_true rfl, Nat.le_of_ble_eq_true rfl⟩ rfl (Nat.le_of_ble_eq_true rfl) dL_areApart_134 ⟨by show _ ≤ 6347; omega, by show _ ≤ 6 * 6347; omega⟩ rfl ?_
    refine V_if_lt hC 175 dL_areApart_137 (by decide) (fun c8 => ?_) (fun c8 => ?_)
    · have h := ite_t c8 h
      refine V_sub [0, 2] rfl ?_
      refine V_widen (k := u + 1) (n := 6 * (u + 1)) (by omega) (by omega) ?_
      exact b_L_areApart_175 hC hr hlk hX hlt hk4 hv4 (by omega) h
    · have h := ite_f c8 h
      refine V_aload_n hC dL_areApart_140 rfl 0 rfl ?_
      refine V_iload_n hC dL_areApart_141 rfl 2 rfl ?_
      refine V_iconst hC (3 : Int32) dL_areApart_142 (by decide) ?_
      obtain ⟨q9, e9, h⟩ := bind_some h
      refine V_cW hC hX [.ref (adr G 6 0), .int x2, .int (3 : Int32)] (c_L_checkOut (l := l) (rv := q9.1) (Mf := q9.2) hlt hC.2.2.2.2.2.2.2 e9) kx_L_checkOut gw_1014 gw_1013 ⟨Nat.le_of_ble_eq_true rfl, Nat.le_of_ble_eq_true rfl⟩ rfl (Nat.le_of_ble_eq_true rfl) dL_areApart_143 ⟨by show _ ≤ 6347; omega, by show _ ≤ 6 * 6347; omega⟩ rfl ?_
      refine V_iconst hC (1 : Int32) dL_areApart_146 (by decide) ?_
      refine V_icmp_ne hC 158 dL_areApart_147 (by decide) (fun c10 => ?_) (fun c10 => ?_)
      · have h := ite_f c10 h
        refine V_sub [0, 2] rfl ?_
        refine V_widen (k := u + 2) (n := 6 * (u + 2)) (by omega) (by omega) ?_
        exact b_L_areApart_158 hC hr hlk hX hlt hk4 hv4 (by omega) h
      · have h := ite_t c10 h
        refine V_aload_n hC dL_areApart_150 rfl 0 rfl ?_
        refine V_iload_n hC dL_areApart_151 rfl 2 rfl ?_
        obtain ⟨q15, e15, h⟩ := bind_some h
        refine V_cW hC hX [.ref (adr G 6 0), .int x2] (c_L_conflicts (l := l) (rv := q15.1) (Mf := q15.2) hlt hC.2.2.2.2.2.2.2 e15) kx_L_conflicts gw_1152 gw_1151 ⟨Nat.le_of_ble_eq_true rfl, Nat.le_of_ble_eq_true rfl⟩ rfl (Nat.le_of_ble_eq_true rfl) dL_areApart_152 ⟨by show _ ≤ 6347; omega, by show _ ≤ 6 * 6347; omega⟩ rfl ?_
        refine V_if_eq hC 175 dL_areApart_155 (by decide) (fun c16 => ?_) (fun c16 => ?_)
        · have h := ite_t c16 h
          refine V_sub [0, 2] rfl ?_
          refine V_widen (k := u + 3) (n := 6 * (u + 3)) (by omega) (by omega) ?_
          exact b_L_areApart_175 hC hr hlk hX hlt hk4 hv4 (by omega) h
        · have h := ite_f c16 h
          refine V_sub [0, 2] rfl ?_
          refine V_widen (k := u + 3) (n := 6 * (u + 3)) (by omega) (by omega) ?_
          exact b_L_areApart_158 hC hr hlk hX hlt hk4 hv4 (by omega) h
set_option maxRecDepth 100000 in
set_option maxHeartbeats 8000000 in
theorem b_L_areApart_121 {u : Nat} {v4 : Nat} {v16 : Nat} {rv : Int32} {Mf : Mem} {k4 : Int32 → Int32 → Mem → Option (Int32 × Mem)} {k16 : Int32 → Int32 → Mem → Option (Int32 × Mem)} {x1 : Int32} {x2 : Int32} {x3 : Int32} {M : Mem} (hC : Cx p s m args c cL_areApart RL 5 G) (hr : meth.sig.returnType = some .boolean) (hlk : meth.locks = false) (hX : XF G s) (hlt : l.stackTraces = false) (hk4 : ∀ (u : Nat) (x1 : Int32) (x2 : Int32) (M : Mem), u + v4 ≤ 6347 → k4 x1 x2 M = some (rv, Mf) → V p l e (rmc 12 6347) s m args below meth c 5 G (u) (6 * (u)) (MQ below (gQ G (some (.int rv)) Mf) args s 6347 (6 * 6347) (gA G)) 4 [(0, .ref (adr G 6 0)), (1, .int x1), (2, .int x2)] [] M) (hk16 : ∀ (u : Nat) (x1 : Int32) (x3 : Int32) (M : Mem), u + v16 ≤ 6347 → k16 x1 x3 M = some (rv, Mf) → V p l e (rmc 12 6347) s m args below meth c 5 G (u) (6 * (u)) (MQ below (gQ G (some (.int rv)) Mf) args s 6347 (6 * 6347) (gA G)) 16 [(0, .ref (adr G 6 0)), (1, .int x1), (2, .int x2), (3, .int x3)] [] M) (hv4 : 0 ≤ v4) (hv16 : 5 + v4 ≤ v16) (hu : u + (0 + v16) ≤ 6347) (h : B_L_areApart_121 k4 k16 x1 x2 x3 M = some (rv, Mf)) : V p l e (rmc 12 6347) s m args below meth c 5 G (u) (6 * (u)) (MQ below (gQ G (some (.int rv)) Mf) args s 6347 (6 * 6347) (gA G)) 121 [(0, .ref (adr G 6 0)), (1, .int x1), (2, .int x2), (3, .int x3)] [] M := by
  refine V_iinc hC (x3 + 1) ([(3, .int (x3 + 1)), (0, .ref (adr G 6 0)), (1, .int x1), (2, .int x2)]) dL_areApart_121 3 rfl rfl (by decide) rfl ?_
  refine V_goto hC 16 dL_areApart_124 (by decide) ?_
  refine V_sub [1, 2, 3, 0] rfl ?_
  refine V_widen (k := u + 0) (n := 6 * (u + 0)) (by omega) (by omega) ?_
  exact hk16 _ _ _ _ (by omega) h
set_option maxRecDepth 100000 in
set_option maxHeartbeats 8000000 in
theorem b_L_areApart_120 {u : Nat} {v4 : Nat} {v16 : Nat} {rv : Int32} {Mf : Mem} {k4 : Int32 → Int32 → Mem → Option (Int32 × Mem)} {k16 : Int32 → Int32 → Mem → Option (Int32 × Mem)} {x2 : Int32} {x3 : Int32} {z0 : Int32} {M : Mem} (hC : Cx p s m args c cL_areApart RL 5 G) (hr : meth.sig.returnType = some .boolean) (hlk : meth.locks = false) (hX : XF G s) (hlt : l.stackTraces = false) (hk4 : ∀ (u : Nat) (x1 : Int32) (x2 : Int32) (M : Mem), u + v4 ≤ 6347 → k4 x1 x2 M = some (rv, Mf) → V p l e (rmc 12 6347) s m args below meth c 5 G (u) (6 * (u)) (MQ below (gQ G (some (.int rv)) Mf) args s 6347 (6 * 6347) (gA G)) 4 [(0, .ref (adr G 6 0)), (1, .int x1), (2, .int x2)] [] M) (hk16 : ∀ (u : Nat) (x1 : Int32) (x3 : Int32) (M : Mem), u + v16 ≤ 6347 → k16 x1 x3 M = some (rv, Mf) → V p l e (rmc 12 6347) s m args below meth c 5 G (u) (6 * (u)) (MQ below (gQ G (some (.int rv)) Mf) args s 6347 (6 * 6347) (gA G)) 16 [(0, .ref (adr G 6 0)), (1, .int x1), (2, .int x2), (3, .int x3)] [] M) (hv4 : 0 ≤ v4) (hv16 : 5 + v4 ≤ v16) (hu : u + (0 + v16) ≤ 6347) (h : B_L_areApart_120 k4 k16 x2 x3 z0 M = some (rv, Mf)) : V p l e (rmc 12 6347) s m args below meth c 5 G (u) (6 * (u)) (MQ below (gQ G (some (.int rv)) Mf) args s 6347 (6 * 6347) (gA G)) 120 [(0, .ref (adr G 6 0)), (2, .int x2), (3, .int x3)] [.int z0] M := by
  refine V_istore_n hC ([(1, .int z0), (0, .ref (adr G 6 0)), (2, .int x2), (3, .int x3)]) dL_areApart_120 rfl (by decide) rfl ?_
  refine V_sub [1, 0, 2, 3] rfl ?_
  refine V_widen (k := u + 0) (n := 6 * (u + 0)) (by omega) (by omega) ?_
  exact b_L_areApart_121 hC hr hlk hX hlt hk4 hk16 hv4 hv16 (by omega) h
set_option maxRecDepth 100000 in
set_option maxHeartbeats 8000000 in
theorem b_L_areApart_119 {u : Nat} {v4 : Nat} {v16 : Nat} {rv : Int32} {Mf : Mem} {k4 : Int32 → Int32 → Mem → Option (Int32 × Mem)} {k16 : Int32 → Int32 → Mem → Option (Int32 × Mem)} {x2 : Int32} {x3 : Int32} {M : Mem} (hC : Cx p s m args c cL_areApart RL 5 G) (hr : meth.sig.returnType = some .boolean) (hlk : meth.locks = false) (hX : XF G s) (hlt : l.stackTraces = false) (hk4 : ∀ (u : Nat) (x1 : Int32) (x2 : Int32) (M : Mem), u + v4 ≤ 6347 → k4 x1 x2 M = some (rv, Mf) → V p l e (rmc 12 6347) s m args below meth c 5 G (u) (6 * (u)) (MQ below (gQ G (some (.int rv)) Mf) args s 6347 (6 * 6347) (gA G)) 4 [(0, .ref (adr G 6 0)), (1, .int x1), (2, .int x2)] [] M) (hk16 : ∀ (u : Nat) (x1 : Int32) (x3 : Int32) (M : Mem), u + v16 ≤ 6347 → k16 x1 x3 M = some (rv, Mf) → V p l e (rmc 12 6347) s m args below meth c 5 G (u) (6 * (u)) (MQ below (gQ G (some (.int rv)) Mf) args s 6347 (6 * 6347) (gA G)) 16 [(0, .ref (adr G 6 0)), (1, .int x1), (2, .int x2), (3, .int x3)] [] M) (hv4 : 0 ≤ v4) (hv16 : 5 + v4 ≤ v16) (hu : u + (0 + v16) ≤ 6347) (h : B_L_areApart_119 k4 k16 x2 x3 M = some (rv, Mf)) : V p l e (rmc 12 6347) s m args below meth c 5 G (u) (6 * (u)) (MQ below (gQ G (some (.int rv)) Mf) args s 6347 (6 * 6347) (gA G)) 119 [(0, .ref (adr G 6 0)), (2, .int x2), (3, .int x3)] [] M := by
  refine V_iconst hC (0 : Int32) dL_areApart_119 (by decide) ?_
  refine V_widen (k := u + 0) (n := 6 * (u + 0)) (by omega) (by omega) ?_
  exact b_L_areApart_120 hC hr hlk hX hlt hk4 hk16 hv4 hv16 (by omega) h
set_option maxRecDepth 100000 in
set_option maxHeartbeats 8000000 in
theorem b_L_areApart_95 {u : Nat} {v4 : Nat} {v16 : Nat} {rv : Int32} {Mf : Mem} {k4 : Int32 → Int32 → Mem → Option (Int32 × Mem)} {k16 : Int32 → Int32 → Mem → Option (Int32 × Mem)} {x2 : Int32} {x3 : Int32} {M : Mem} (hC : Cx p s m args c cL_areApart RL 5 G) (hr : meth.sig.returnType = some .boolean) (hlk : meth.locks = false) (hX : XF G s) (hlt : l.stackTraces = false) (hk4 : ∀ (u : Nat) (x1 : Int32) (x2 : Int32) (M : Mem), u + v4 ≤ 6347 → k4 x1 x2 M = some (rv, Mf) → V p l e (rmc 12 6347) s m args below meth c 5 G (u) (6 * (u)) (MQ below (gQ G (some (.int rv)) Mf) args s 6347 (6 * 6347) (gA G)) 4 [(0, .ref (adr G 6 0)), (1, .int x1), (2, .int x2)] [] M) (hk16 : ∀ (u : Nat) (x1 : Int32) (x3 : Int32) (M : Mem), u + v16 ≤ 6347 → k16 x1 x3 M = some (rv, Mf) → V p l e (rmc 12 6347) s m args below meth c 5 G (u) (6 * (u)) (MQ below (gQ G (some (.int rv)) Mf) args s 6347 (6 * 6347) (gA G)) 16 [(0, .ref (adr G 6 0)), (1, .int x1), (2, .int x2), (3, .int x3)] [] M) (hv4 : 0 ≤ v4) (hv16 : 5 + v4 ≤ v16) (hu : u + (2 + v16) ≤ 6347) (h : B_L_areApart_95 k4 k16 x2 x3 M = some (rv, Mf)) : V p l e (rmc 12 6347) s m args below meth c 5 G (u) (6 * (u)) (MQ below (gQ G (some (.int rv)) Mf) args s 6347 (6 * 6347) (gA G)) 95 [(0, .ref (adr G 6 0)), (2, .int x2), (3, .int x3)] [] M := by
  refine V_aload_n hC dL_areApart_95 rfl 0 rfl ?_
  refine V_iload_n hC dL_areApart_96 rfl 1 rfl ?_
  refine V_iconst hC (4 : Int32) dL_areApart_97 (by decide) ?_
  obtain ⟨q25, e25, h⟩ := bind_some h
  refine V_cW hC hX [.ref (adr G 6 0), .int x2, .int (4 : Int32)] (c_L_checkOut (l := l) (rv := q25.1) (Mf := q25.2) hlt hC.2.2.2.2.2.2.2 e25) kx_L_checkOut gw_1014 gw_1013 ⟨Nat.le_of_ble_eq_true rfl, Nat.le_of_ble_eq_true rfl⟩ rfl (Nat.le_of_ble_eq_true rfl) dL_areApart_98 ⟨by show _ ≤ 6347; omega, by show _ ≤ 6 * 6347; omega⟩ rfl ?_
  refine V_iconst hC (1 : Int32) dL_areApart_101 (by decide) ?_
  refine V_icmp_ne hC 119 dL_areApart_102 (by decide) (fun c26 => ?_) (fun c26 => ?_)
  · have h := ite_f c26 h
    refine V_widen (k := u + 1) (n := 6 * (u + 1)) (by omega) (by omega) ?_
    exact b_L_areApart_119 hC hr hlk hX hlt hk4 hk16 hv4 hv16 (by omega) h
  · have h := ite_t c26 h
    refine V_aload_n hC dL_areApart_105 rfl 0 rfl ?_
    refine V_iload_n hC dL_areApart_106 rfl 2 rfl ?_
    refine V_iconst hC (4 : Int32) dL_areApart_107 (by decide) ?_
    obtain ⟨q27, e27, h⟩ := bind_some h
    refine V_cW hC hX [.ref (adr G 6 0), .int x3, .int (4 : Int32)] (c_L_checkOut (l := l) (rv := q27.1) (Mf := q27.2) hlt hC.2.2.2.2.2.2.2 e27) kx_L_checkOut gw_1014 gw_1013 ⟨Nat.le_of_ble_eq_true rfl, Nat.le_of_ble_eq_true rfl⟩ rfl (Nat.le_of_ble_eq_true rfl) dL_areApart_108 ⟨by show _ ≤ 6347; omega, by show _ ≤ 6 * 6347; omega⟩ rfl ?_
    refine V_iconst hC (1 : Int32) dL_areApart_111 (by decide) ?_
    refine V_icmp_ne hC 119 dL_areApart_112 (by decide) (fun c28 => ?_) (fun c28 => ?_)
    · have h := ite_f c28 h
      refine V_widen (k := u + 2) (n := 6 * (u + 2)) (by omega) (by omega) ?_
      exact b_L_areApart_119 hC hr hlk hX hlt hk4 hk16 hv4 hv16 (by omega) h
    · have h := ite_t c28 h
      refine V_iconst hC (1 : Int32) dL_areApart_115 (by decide) ?_
      refine V_goto hC 120 dL_areApart_116 (by decide) ?_
      refine V_widen (k := u + 2) (n := 6 * (u + 2)) (by omega) (by omega) ?_
      exact b_L_areApart_120 hC hr hlk hX hlt hk4 hk16 hv4 hv16 (by omega) h
set_option maxRecDepth 100000 in
set_option maxHeartbeats 8000000 in
theorem b_L_areApart_50 {u : Nat} {v4 : Nat} {v16 : Nat} {rv : Int32} {Mf : Mem} {k4 : Int32 → Int32 → Mem → Option (Int32 × Mem)} {k16 : Int32 → Int32 → Mem → Option (Int32 × Mem)} {x1 : Int32} {x2 : Int32} {x3 : Int32} {z0 : Int32} {M : Mem} (hC : Cx p s m args c cL_areApart RL 5 G) (hr : meth.sig.returnType = some .boolean) (hlk : meth.locks = false) (hX : XF G s) (hlt : l.stackTraces = false) (hk4 : ∀ (u : Nat) (x1 : Int32) (x2 : Int32) (M : Mem), u + v4 ≤ 6347 → k4 x1 x2 M = some (rv, Mf) → V p l e (rmc 12 6347) s m args below meth c 5 G (u) (6 * (u)) (MQ below (gQ G (some (.int rv)) Mf) args s 6347 (6 * 6347) (gA G)) 4 [(0, .ref (adr G 6 0)), (1, .int x1), (2, .int x2)] [] M) (hk16 : ∀ (u : Nat) (x1 : Int32) (x3 : Int32) (M : Mem), u + v16 ≤ 6347 → k16 x1 x3 M = some (rv, Mf) → V p l e (rmc 12 6347) s m args below meth c 5 G (u) (6 * (u)) (MQ below (gQ G (some (.int rv)) Mf) args s 6347 (6 * 6347) (gA G)) 16 [(0, .ref (adr G 6 0)), (1, .int x1), (2, .int x2), (3, .int x3)] [] M) (hv4 : 0 ≤ v4) (hv16 : 5 + v4 ≤ v16) (hu : u + (50 + v16) ≤ 6347) (h : B_L_areApart_50 k4 k16 x1 x2 x3 z0 M = some (rv, Mf)) : V p l e (rmc 12 6347) s m args below meth c 5 G (u) (6 * (u)) (MQ below (gQ G (some (.int rv)) Mf) args s 6347 (6 * 6347) (gA G)) 50 [(0, .ref (adr G 6 0)), (1, .int x1), (2, .int x2), (3, .int x3)] [.int z0] M := by
  refine V_istore hC ([(4, .int z0), (0, .ref (adr G 6 0)), (1, .int x1), (2, .int x2), (3, .int x3)]) dL_areApart_50 (by decide) rfl ?_
  refine V_iload hC dL_areApart_52 0 rfl ?_
  refine V_if_eq hC 121 dL_areApart_54 (by decide) (fun c20 => ?_) (fun c20 => ?_)
  · have h := ite_t c20 h
    refine V_sub [1, 2, 3, 4] rfl ?_
    refine V_widen (k := u + 0) (n := 6 * (u + 0)) (by omega) (by omega) ?_
    exact b_L_areApart_121 hC hr hlk hX hlt hk4 hk16 hv4 hv16 (by omega) h
  · have h := ite_f c20 h
    refine V_aload_n hC dL_areApart_57 rfl 1 rfl ?_
    refine V_aload_n hC dL_areApart_58 rfl 1 rfl ?_
    refine V_iload_n hC dL_areApart_59 rfl 3 rfl ?_
    refine V_iconst hC (1 : Int32) dL_areApart_60 (by decide) ?_
    obtain ⟨q21, e21, h⟩ := bind_some h
    refine V_cW hC hX [.ref (adr G 6 0), .int x2, .int (1 : Int32)] (c_L_checkOut (l := l) (rv := q21.1) (Mf := q21.2) hlt hC.2.2.2.2.2.2.2 e21) kx_L_checkOut gw_1014 gw_1013 ⟨Nat.le_of_ble_eq_true rfl, Nat.le_of_ble_eq_true rfl⟩ rfl (Nat.le_of_ble_eq_true rfl) dL_areApart_61 ⟨by show _ ≤ 6347; omega, by show _ ≤ 6 * 6347; omega⟩ rfl ?_
    refine V_aload_n hC dL_areApart_64 rfl 1 rfl ?_
    refine V_iload_n hC dL_areApart_65 rfl 4 rfl ?_
    refine V_iconst hC (1 : Int32) dL_areApart_66 (by decide) ?_
    obtain ⟨q22, e22, h⟩ := bind_some h
    refine V_cW hC hX [.ref (adr G 6 0), .int x3, .int (1 : Int32)] (c_L_checkOut (l := l) (rv := q22.1) (Mf := q22.2) hlt hC.2.2.2.2.2.2.2 e22) kx_L_checkOut gw_1014 gw_1013 ⟨Nat.le_of_ble_eq_true rfl, Nat.le_of_ble_eq_true rfl⟩ rfl (Nat.le_of_ble_eq_true rfl) dL_areApart_67 ⟨by show _ ≤ 6347; omega, by show _ ≤ 6 * 6347; omega⟩ rfl ?_
    obtain ⟨q23, e23, h⟩ := bind_some h
    refine V_cL (K := 22) hC hX [.ref (adr G 6 0), .int q21.1, .int q22.1] (c_L_isIn (l := l) (rv := q23.1) (Mf := q23.2) hlt hC.2.2.2.2.2.2.2 e23) kd_L_isIn gw_1149 gw_1148 ⟨Nat.le_of_ble_eq_true rfl, Nat.le_of_ble_eq_true rfl⟩ rfl (Nat.le_of_ble_eq_true rfl) dL_areApart_70 ⟨by show _ ≤ 6347; omega, by show _ ≤ 6 * 6347; omega⟩ rfl ?_
    refine V_if_ne hC 95 dL_areApart_73 (by decide) (fun c24 => ?_) (fun c24 => ?_)
    · have h := ite_f c24 h
      refine V_sub [1, 3, 4] rfl ?_
      refine V_widen (k := u + 24) (n := 6 * (u + 24)) (by omega) (by omega) ?_
      exact b_L_areApart_95 hC hr hlk hX hlt hk4 hk16 hv4 hv16 (by omega) h
    · have h := ite_t c24 h
      refine V_aload_n hC dL_areApart_76 rfl 1 rfl ?_
      refine V_aload_n hC dL_areApart_77 rfl 1 rfl ?_
      refine V_iload_n hC dL_areApart_78 rfl 4 rfl ?_
      refine V_iconst hC (1 : Int32) dL_areApart_79 (by decide) ?_
      obtain ⟨q29, e29, h⟩ := bind_some h
      refine V_cW hC hX [.ref (adr G 6 0), .int x3, .int (1 : Int32)] (c_L_checkOut (l := l) (rv := q29.1) (Mf := q29.2) hlt hC.2.2.2.2.2.2.2 e29) kx_L_checkOut gw_1014 gw_1013 ⟨Nat.le_of_ble_eq_true rfl, Nat.le_of_ble_eq_true rfl⟩ rfl (Nat.le_of_ble_eq_true rfl) dL_areApart_80 ⟨by show _ ≤ 6347; omega, by show _ ≤ 6 * 6347; omega⟩ rfl ?_
      refine V_aload_n hC dL_areApart_83 rfl 1 rfl ?_
      refine V_iload_n hC dL_areApart_84 rfl 3 rfl ?_
      refine V_iconst hC (1 : Int32) dL_areApart_85 (by decide) ?_
      obtain ⟨q30, e30, h⟩ := bind_some h
      refine V_cW hC hX [.ref (adr G 6 0), .int x2, .int (1 : Int32)] (c_L_checkOut (l := l) (rv := q30.1) (Mf := q30.2) hlt hC.2.2.2.2.2.2.2 e30) kx_L_checkOut gw_1014 gw_1013 ⟨Nat.le_of_ble_eq_true rfl, Nat.le_of_ble_eq_true rfl⟩ rfl (Nat.le_of_ble_eq_true rfl) dL_areApart_86 ⟨by show _ ≤ 6347; omega, by show _ ≤ 6 * 6347; omega⟩ rfl ?_
      obtain ⟨q31, e31, h⟩ := bind_some h
      refine V_cL (K := 22) hC hX [.ref (adr G 6 0), .int q29.1, .int q30.1] (c_L_isIn (l := l) (rv := q31.1) (Mf := q31.2) hlt hC.2.2.2.2.2.2.2 e31) kd_L_isIn gw_1149 gw_1148 ⟨Nat.le_of_ble_eq_true rfl, Nat.le_of_ble_eq_true rfl⟩ rfl (Nat.le_of_ble_eq_true rfl) dL_areApart_89 ⟨by show _ ≤ 6347; omega, by show _ ≤ 6 * 6347; omega⟩ rfl ?_
      refine V_if_eq hC 121 dL_areApart_92 (by decide) (fun c32 => ?_) (fun c32 => ?_)
      · have h := ite_t c32 h
        refine V_sub [1, 2, 3, 4] rfl ?_
        refine V_widen (k := u + 48) (n := 6 * (u + 48)) (by omega) (by omega) ?_
        exact b_L_areApart_121 hC hr hlk hX hlt hk4 hk16 hv4 hv16 (by omega) h
      · have h := ite_f c32 h
        refine V_sub [1, 3, 4] rfl ?_
        refine V_widen (k := u + 48) (n := 6 * (u + 48)) (by omega) (by omega) ?_
        exact b_L_areApart_95 hC hr hlk hX hlt hk4 hk16 hv4 hv16 (by omega) h
set_option maxRecDepth 100000 in
set_option maxHeartbeats 8000000 in
theorem b_L_areApart_49 {u : Nat} {v4 : Nat} {v16 : Nat} {rv : Int32} {Mf : Mem} {k4 : Int32 → Int32 → Mem → Option (Int32 × Mem)} {k16 : Int32 → Int32 → Mem → Option (Int32 × Mem)} {x1 : Int32} {x2 : Int32} {x3 : Int32} {M : Mem} (hC : Cx p s m args c cL_areApart RL 5 G) (hr : meth.sig.returnType = some .boolean) (hlk : meth.locks = false) (hX : XF G s) (hlt : l.stackTraces = false) (hk4 : ∀ (u : Nat) (x1 : Int32) (x2 : Int32) (M : Mem), u + v4 ≤ 6347 → k4 x1 x2 M = some (rv, Mf) → V p l e (rmc 12 6347) s m args below meth c 5 G (u) (6 * (u)) (MQ below (gQ G (some (.int rv)) Mf) args s 6347 (6 * 6347) (gA G)) 4 [(0, .ref (adr G 6 0)), (1, .int x1), (2, .int x2)] [] M) (hk16 : ∀ (u : Nat) (x1 : Int32) (x3 : Int32) (M : Mem), u + v16 ≤ 6347 → k16 x1 x3 M = some (rv, Mf) → V p l e (rmc 12 6347) s m args below meth c 5 G (u) (6 * (u)) (MQ below (gQ G (some (.int rv)) Mf) args s 6347 (6 * 6347) (gA G)) 16 [(0, .ref (adr G 6 0)), (1, .int x1), (2, .int x2), (3, .int x3)] [] M) (hv4 : 0 ≤ v4) (hv16 : 5 + v4 ≤ v16) (hu : u + (50 + v16) ≤ 6347) (h : B_L_areApart_49 k4 k16 x1 x2 x3 M = some (rv, Mf)) : V p l e (rmc 12 6347) s m args below meth c 5 G (u) (6 * (u)) (MQ below (gQ G (some (.int rv)) Mf) args s 6347 (6 * 6347) (gA G)) 49 [(0, .ref (adr G 6 0)), (1, .int x1), (2, .int x2), (3, .int x3)] [] M := by
  refine V_iconst hC (0 : Int32) dL_areApart_49 (by decide) ?_
  refine V_widen (k := u + 0) (n := 6 * (u + 0)) (by omega) (by omega) ?_
  exact b_L_areApart_50 hC hr hlk hX hlt hk4 hk16 hv4 hv16 (by omega) h
set_option maxRecDepth 100000 in
set_option maxHeartbeats 8000000 in
theorem l_L_areApart_16 {v4 : Nat} {k4 : Int32 → Int32 → Mem → Option (Int32 × Mem)} {rv : Int32} {Mf : Mem} {x2 : Int32} (hC : Cx p s m args c cL_areApart RL 5 G) (hr : meth.sig.returnType = some .boolean) (hlk : meth.locks = false) (hX : XF G s) (hlt : l.stackTraces = false) (hk4 : ∀ (u : Nat) (x1 : Int32) (x2 : Int32) (M : Mem), u + v4 ≤ 6347 → k4 x1 x2 M = some (rv, Mf) → V p l e (rmc 12 6347) s m args below meth c 5 G (u) (6 * (u)) (MQ below (gQ G (some (.int rv)) Mf) args s 6347 (6 * 6347) (gA G)) 4 [(0, .ref (adr G 6 0)), (1, .int x1), (2, .int x2)] [] M) (hv4 : 0 ≤ v4) : ∀ (n : Nat) {u : Nat} {x1 : Int32} {x3 : Int32} {M : Mem} (hu : u + (52 * n + (5 + v4)) ≤ 6347) (h : L_L_areApart_16 k4 x2 n x1 x3 M = some (rv, Mf)), V p l e (rmc 12 6347) s m args below meth c 5 G (u) (6 * (u)) (MQ below (gQ G (some (.int rv)) Mf) args s 6347 (6 * 6347) (gA G)) 16 [(0, .ref (adr G 6 0)), (1, .int x1), (2, .int x2), (3, .int x3)] [] M := by
  intro n
  induction n with
  | zero => intro u x1 x3 M hu h; cases h
  | succ n ih =>
    intro u x1 x3 M hu h
    rw [Nat.mul_succ] at hu
    obtain ⟨v16, ev16⟩ : ∃ v, v = 52 * n + (5 + v4) := ⟨_, rfl⟩
    have hv16 : 5 + v4 ≤ v16 := by rw [ev16]; exact Nat.le_add_left _ _
    have hk16 : ∀ (u : Nat) (x1 : Int32) (x3 : Int32) (M : Mem), u + v16 ≤ 6347 → L_L_areApart_16 k4 x2 n x1 x3 M = some (rv, Mf) → V p l e (rmc 12 6347) s m args below meth c 5 G (u) (6 * (u)) (MQ below (gQ G (some (.int rv)) Mf) args s 6347 (6 * 6347) (gA G)) 16 [(0, .ref (adr G 6 0)), (1, .int x1), (2, .int x2), (3, .int x3)] [] M := fun _ _ _ _ hw z => ih (by rw [← ev16]; exact hw) z
    have hu : u + 52 + v16 ≤ 6347 := bud hu ev16
    clear ih ev16
    refine V_iload_n hC dL_areApart_16 rfl 3 rfl ?_
    refine V_iload_n hC dL_areApart_17 rfl 2 rfl ?_
    refine V_icmp_ge hC 127 dL_areApart_18 (by decide) (fun c5 => ?_) (fun c5 => ?_)
    · have h := ite_t c5 h
      refine V_sub [0, 1, 2] rfl ?_
      refine V_widen (k := u + 0) (n := 6 * (u + 0)) (by omega) (by omega) ?_
      exact b_L_areApart_127 hC hr hlk hX hlt hk4 hv4 (by omega) h
    · have h := ite_f c5 h
      refine V_iload_n hC dL_areApart_21 rfl 1 rfl ?_
      refine V_if_eq hC 127 dL_areApart_22 (by decide) (fun c17 => ?_) (fun c17 => ?_)
      · have h := ite_t c17 h
        refine V_sub [0, 1, 2] rfl ?_
        refine V_widen (k := u + 0) (n := 6 * (u + 0)) (by omega) (by omega) ?_
        exact b_L_areApart_127 hC hr hlk hX hlt hk4 hv4 (by omega) h
      · have h := ite_f c17 h
        refine V_aload_n hC dL_areApart_25 rfl 0 rfl ?_
        refine V_iload_n hC dL_areApart_26 rfl 2 rfl ?_
        refine V_iconst hC (3 : Int32) dL_areApart_27 (by decide) ?_
        obtain ⟨q18, e18, h⟩ := bind_some h
        refine V_cW hC hX [.ref (adr G 6 0), .int x2, .int (3 : Int32)] (c_L_checkOut (l := l) (rv := q18.1) (Mf := q18.2) hlt hC.2.2.2.2.2.2.2 e18) kx_L_checkOut gw_1014 gw_1013 ⟨Nat.le_of_ble_eq_true rfl, Nat.le_of_ble_eq_true rfl⟩ rfl (Nat.le_of_ble_eq_true rfl) dL_areApart_28 ⟨by show _ ≤ 6347; omega, by show _ ≤ 6 * 6347; omega⟩ rfl ?_
        refine V_iconst hC (1 : Int32) dL_areApart_31 (by decide) ?_
        refine V_icmp_ne hC 49 dL_areApart_32 (by decide) (fun c19 => ?_) (fun c19 => ?_)
        · have h := ite_f c19 h
          refine V_widen (k := u + 1) (n := 6 * (u + 1)) (by omega) (by omega) ?_
          exact b_L_areApart_49 hC hr hlk hX hlt hk4 hk16 hv4 hv16 (by omega) h
        · have h := ite_t c19 h
          refine V_aload_n hC dL_areApart_35 rfl 0 rfl ?_
          refine V_iload_n hC dL_areApart_36 rfl 3 rfl ?_
          refine V_iconst hC (3 : Int32) dL_areApart_37 (by decide) ?_
          obtain ⟨q33, e33, h⟩ := bind_some h
          refine V_cW hC hX [.ref (adr G 6 0), .int x3, .int (3 : Int32)] (c_L_checkOut (l := l) (rv := q33.1) (Mf := q33.2) hlt hC.2.2.2.2.2.2.2 e33) kx_L_checkOut gw_1014 gw_1013 ⟨Nat.le_of_ble_eq_true rfl, Nat.le_of_ble_eq_true rfl⟩ rfl (Nat.le_of_ble_eq_true rfl) dL_areApart_38 ⟨by show _ ≤ 6347; omega, by show _ ≤ 6 * 6347; omega⟩ rfl ?_
          refine V_iconst hC (1 : Int32) dL_areApart_41 (by decide) ?_
          refine V_icmp_ne hC 49 dL_areApart_42 (by decide) (fun c34 => ?_) (fun c34 => ?_)
          · have h := ite_f c34 h
            refine V_widen (k := u + 2) (n := 6 * (u + 2)) (by omega) (by omega) ?_
            exact b_L_areApart_49 hC hr hlk hX hlt hk4 hk16 hv4 hv16 (by omega) h
          · have h := ite_t c34 h
            refine V_iconst hC (1 : Int32) dL_areApart_45 (by decide) ?_
            refine V_goto hC 50 dL_areApart_46 (by decide) ?_
            refine V_widen (k := u + 2) (n := 6 * (u + 2)) (by omega) (by omega) ?_
            exact b_L_areApart_50 hC hr hlk hX hlt hk4 hk16 hv4 hv16 (by omega) h
set_option maxRecDepth 100000 in
set_option maxHeartbeats 8000000 in
theorem l_L_areApart_4 {rv : Int32} {Mf : Mem} (hC : Cx p s m args c cL_areApart RL 5 G) (hr : meth.sig.returnType = some .boolean) (hlk : meth.locks = false) (hX : XF G s) (hlt : l.stackTraces = false) : ∀ (n : Nat) {u : Nat} {x1 : Int32} {x2 : Int32} {M : Mem} (hu : u + (577 * n + (0)) ≤ 6347) (h : L_L_areApart_4 n x1 x2 M = some (rv, Mf)), V p l e (rmc 12 6347) s m args below meth c 5 G (u) (6 * (u)) (MQ below (gQ G (some (.int rv)) Mf) args s 6347 (6 * 6347) (gA G)) 4 [(0, .ref (adr G 6 0)), (1, .int x1), (2, .int x2)] [] M := by
  intro n
  induction n with
  | zero => intro u x1 x2 M hu h; cases h
  | succ n ih =>
    intro u x1 x2 M hu h
    rw [Nat.mul_succ] at hu
    obtain ⟨v4, ev4⟩ : ∃ v, v = 577 * n + (0) := ⟨_, rfl⟩
    have hv4 : 0 ≤ v4 := by rw [ev4]; exact Nat.le_add_left _ _
    have hk4 : ∀ (u : Nat) (x1 : Int32) (x2 : Int32) (M : Mem), u + v4 ≤ 6347 → L_L_areApart_4 n x1 x2 M = some (rv, Mf) → V p l e (rmc 12 6347) s m args below meth c 5 G (u) (6 * (u)) (MQ below (gQ G (some (.int rv)) Mf) args s 6347 (6 * 6347) (gA G)) 4 [(0, .ref (adr G 6 0)), (1, .int x1), (2, .int x2)] [] M := fun _ _ _ _ hw z => ih (by rw [← ev4]; exact hw) z
    have hu : u + 577 + v4 ≤ 6347 := bud hu ev4
    clear ih ev4
    refine V_iload_n hC dL_areApart_4 rfl 2 rfl ?_
    refine V_bipush hC (10 : Int32) dL_areApart_5 (by decide) ?_
    refine V_icmp_ge hC 187 dL_areApart_7 (by decide) (fun c1 => ?_) (fun c1 => ?_)
    · have h := ite_t c1 h
      refine V_iload_n hC dL_areApart_187 rfl 1 rfl ?_
      obtain ⟨c2, h⟩ := ite_some h
      obtain ⟨rfl, rfl⟩ := Prod.mk.inj (Option.some.inj h)
      exact V_pzret hC hr hlk (by omega) (by omega) (of_isb c2) dL_areApart_188
    · have h := ite_f c1 h
      refine V_iload_n hC dL_areApart_10 rfl 1 rfl ?_
      refine V_if_eq hC 187 dL_areApart_11 (by decide) (fun c3 => ?_) (fun c3 => ?_)
      · have h := ite_t c3 h
        refine V_iload_n hC dL_areApart_187 rfl 1 rfl ?_
        obtain ⟨c4, h⟩ := ite_some h
        obtain ⟨rfl, rfl⟩ := Prod.mk.inj (Option.some.inj h)
        exact V_pzret hC hr hlk (by omega) (by omega) (of_isb c4) dL_areApart_188
      · have h := ite_f c3 h
        refine V_iconst hC (0 : Int32) dL_areApart_14 (by decide) ?_
        refine V_istore_n hC ([(3, .int (0 : Int32)), (0, .ref (adr G 6 0)), (1, .int x1), (2, .int x2)]) dL_areApart_15 rfl (by decide) rfl ?_
        refine V_sub [1, 2, 3, 0] rfl ?_
        refine V_widen (k := u + 0) (n := 6 * (u + 0)) (by omega) (by omega) ?_
        exact l_L_areApart_16 hC hr hlk hX hlt hk4 hv4 11 (by omega) h
set_option maxRecDepth 100000 in
set_option maxHeartbeats 8000000 in
theorem c_L_areApart {l : Launch} {G : Geo} {rv : Int32} {Mf : Mem} {M : Mem} (hlt : l.stackTraces = false) (hG : gD G) (h : f_L_areApart M = some (rv, Mf)) : Met l yL_areApart (.code yL_areApart cL_areApart 5 (some .boolean) :: GL) (rmc 12 6347) (gPx G [.ref (adr G 6 0)] M) (gQ G (some (.int rv)) Mf) 6347 (6 * 6347) (gA G) := by
  refine PMet_of (own := RL) (L := [(0, .ref (adr G 6 0))]) hG (by decide +kernel) rfl (Nat.le_of_ble_eq_true rfl) rfl ?_
  intro p e s m args below meth c hC hX hr hlk
  obtain ⟨u, eu⟩ : ∃ u : Nat, u = 0 := ⟨0, rfl⟩
  have hu : u + 6347 ≤ 6347 := by omega
  refine V_u (u := u) eu ?_
  refine V_iconst hC (1 : Int32) dL_areApart_0 (by decide) ?_
  refine V_istore_n hC ([(1, .int (1 : Int32)), (0, .ref (adr G 6 0))]) dL_areApart_1 rfl (by decide) rfl ?_
  refine V_iconst hC (0 : Int32) dL_areApart_2 (by decide) ?_
  refine V_istore_n hC ([(2, .int (0 : Int32)), (1, .int (1 : Int32)), (0, .ref (adr G 6 0))]) dL_areApart_3 rfl (by decide) rfl ?_
  refine V_sub [2, 1, 0] rfl ?_
  refine V_widen (k := u + 0) (n := 6 * (u + 0)) (by omega) (by omega) ?_
  exact l_L_areApart_4 hC hr hlk hX hlt 11 (by omega) h
set_option maxRecDepth 100000 in
set_option maxHeartbeats 8000000 in
theorem b_L_isTree_203 {u : Nat} {rv : Int32} {Mf : Mem} {x1 : Int32} {x2 : Int32} {x3 : Int32} {M : Mem} (hC : Cx p s m args c cL_isTree RL 8 G) (hr : meth.sig.returnType = some .boolean) (hlk : meth.locks = false) (hX : XF G s) (hlt : l.stackTraces = false) (hu : u + (0) ≤ 2753) (h : B_L_isTree_203 x1 x2 x3 M = some (rv, Mf)) : V p l e (rmc 11 2753) s m args below meth c 8 G (u) (6 * (u)) (MQ below (gQ G (some (.int rv)) Mf) args s 2753 (6 * 2753) (gA G)) 203 [(0, .ref (adr G 6 0)), (1, .int x1), (2, .int x2), (3, .int x3)] [] M := by
  refine V_iload_n hC dL_isTree_203 rfl 3 rfl ?_
  refine V_if_eq hC 226 dL_isTree_204 (by decide) (fun c4 => ?_) (fun c4 => ?_)
  · have h := ite_t c4 h
    refine V_iconst hC (0 : Int32) dL_isTree_226 (by decide) ?_
    obtain ⟨rfl, rfl⟩ := Prod.mk.inj (Option.some.inj h)
    exact V_pzret hC hr hlk (by omega) (by omega) (Or.inl rfl) dL_isTree_227
  · have h := ite_f c4 h
    refine V_iload_n hC dL_isTree_207 rfl 1 rfl ?_
    refine V_aload_n hC dL_isTree_208 rfl 0 rfl ?_
    refine V_cVr hC [] (c_X8_sections (l := l) hC.2.2.2.2.2.2.2 rfl) kd_X8_sections kv_X8_sections gw_964 (r_s0_0).o rfl ⟨Nat.le_of_ble_eq_true rfl, Nat.le_of_ble_eq_true rfl⟩ rfl (Nat.le_of_ble_eq_true rfl) dL_isTree_209 ⟨by show _ ≤ 2753; omega, by show _ ≤ 6 * 2753; omega⟩ rfl ?_
    refine V_icmp_ne hC 226 dL_isTree_212 (by decide) (fun c5 => ?_) (fun c5 => ?_)
    · have h := ite_f c5 h
      refine V_iconst hC (0 : Int32) dL_isTree_226 (by decide) ?_
      obtain ⟨rfl, rfl⟩ := Prod.mk.inj (Option.some.inj h)
      exact V_pzret hC hr hlk (by omega) (by omega) (Or.inl rfl) dL_isTree_227
    · have h := ite_t c5 h
      refine V_iload_n hC dL_isTree_215 rfl 2 rfl ?_
      refine V_iload_n hC dL_isTree_216 rfl 1 rfl ?_
      refine V_iconst hC (1 : Int32) dL_isTree_217 (by decide) ?_
      refine V_isub hC dL_isTree_218 ?_
      refine V_icmp_ne hC 226 dL_isTree_219 (by decide) (fun c6 => ?_) (fun c6 => ?_)
      · have h := ite_f c6 h
        refine V_iconst hC (0 : Int32) dL_isTree_226 (by decide) ?_
        obtain ⟨rfl, rfl⟩ := Prod.mk.inj (Option.some.inj h)
        exact V_pzret hC hr hlk (by omega) (by omega) (Or.inl rfl) dL_isTree_227
      · have h := ite_t c6 h
        refine V_iconst hC (1 : Int32) dL_isTree_222 (by decide) ?_
        refine V_goto hC 227 dL_isTree_223 (by decide) ?_
        obtain ⟨rfl, rfl⟩ := Prod.mk.inj (Option.some.inj h)
        exact V_pzret hC hr hlk (by omega) (by omega) (Or.inr rfl) dL_isTree_227
set_option maxRecDepth 100000 in
set_option maxHeartbeats 8000000 in
theorem b_L_isTree_197 {u : Nat} {v32 : Nat} {rv : Int32} {Mf : Mem} {k32 : Int32 → Int32 → Int32 → Int32 → Mem → Option (Int32 × Mem)} {x1 : Int32} {x2 : Int32} {x3 : Int32} {x4 : Int32} {M : Mem} (hC : Cx p s m args c cL_isTree RL 8 G) (hr : meth.sig.returnType = some .boolean) (hlk : meth.locks = false) (hX : XF G s) (hlt : l.stackTraces = false) (hk32 : ∀ (u : Nat) (x1 : Int32) (x2 : Int32) (x3 : Int32) (x4 : Int32) (M : Mem), u + v32 ≤ 2753 → k32 x1 x2 x3 x4 M = some (rv, Mf) → V p l e (rmc 11 2753) s m args below meth c 8 G (u) (6 * (u)) (MQ below (gQ G (some (.int rv)) Mf) args s 2753 (6 * 2753) (gA G)) 32 [(0, .ref (adr G 6 0)), (1, .int x1), (2, .int x2), (3, .int x3), (4, .int x4)] [] M) (hv32 : 0 ≤ v32) (hu : u + (0 + v32) ≤ 2753) (h : B_L_isTree_197 k32 x1 x2 x3 x4 M = some (rv, Mf)) : V p l e (rmc 11 2753) s m args below meth c 8 G (u) (6 * (u)) (MQ below (gQ G (some (.int rv)) Mf) args s 2753 (6 * 2753) (gA G)) 197 [(0, .ref (adr G 6 0)), (1, .int x1), (2, .int x2), (3, .int x3), (4, .int x4)] [] M := by
  refine V_iinc hC (x4 + 1) ([(4, .int (x4 + 1)), (0, .ref (adr G 6 0)), (1, .int x1), (2, .int x2), (3, .int x3)]) dL_isTree_197 4 rfl rfl (by decide) rfl ?_
  refine V_goto hC 32 dL_isTree_200 (by decide) ?_
  refine V_sub [1, 2, 3, 4, 0] rfl ?_
  refine V_widen (k := u + 0) (n := 6 * (u + 0)) (by omega) (by omega) ?_
  exact hk32 _ _ _ _ _ _ (by omega) h
set_option maxRecDepth 100000 in
set_option maxHeartbeats 8000000 in
theorem b_L_isTree_196 {u : Nat} {v32 : Nat} {rv : Int32} {Mf : Mem} {k32 : Int32 → Int32 → Int32 → Int32 → Mem → Option (Int32 × Mem)} {x1 : Int32} {x2 : Int32} {x4 : Int32} {z0 : Int32} {M : Mem} (hC : Cx p s m args c cL_isTree RL 8 G) (hr : meth.sig.returnType = some .boolean) (hlk : meth.locks = false) (hX : XF G s) (hlt : l.stackTraces = false) (hk32 : ∀ (u : Nat) (x1 : Int32) (x2 : Int32) (x3 : Int32) (x4 : Int32) (M : Mem), u + v32 ≤ 2753 → k32 x1 x2 x3 x4 M = some (rv, Mf) → V p l e (rmc 11 2753) s m args below meth c 8 G (u) (6 * (u)) (MQ below (gQ G (some (.int rv)) Mf) args s 2753 (6 * 2753) (gA G)) 32 [(0, .ref (adr G 6 0)), (1, .int x1), (2, .int x2), (3, .int x3), (4, .int x4)] [] M) (hv32 : 0 ≤ v32) (hu : u + (0 + v32) ≤ 2753) (h : B_L_isTree_196 k32 x1 x2 x4 z0 M = some (rv, Mf)) : V p l e (rmc 11 2753) s m args below meth c 8 G (u) (6 * (u)) (MQ below (gQ G (some (.int rv)) Mf) args s 2753 (6 * 2753) (gA G)) 196 [(0, .ref (adr G 6 0)), (1, .int x1), (2, .int x2), (4, .int x4)] [.int z0] M := by
  refine V_istore_n hC ([(3, .int z0), (0, .ref (adr G 6 0)), (1, .int x1), (2, .int x2), (4, .int x4)]) dL_isTree_196 rfl (by decide) rfl ?_
  refine V_sub [1, 2, 3, 0, 4] rfl ?_
  refine V_widen (k := u + 0) (n := 6 * (u + 0)) (by omega) (by omega) ?_
  exact b_L_isTree_197 hC hr hlk hX hlt hk32 hv32 (by omega) h
set_option maxRecDepth 100000 in
set_option maxHeartbeats 8000000 in
theorem b_L_isTree_195 {u : Nat} {v32 : Nat} {rv : Int32} {Mf : Mem} {k32 : Int32 → Int32 → Int32 → Int32 → Mem → Option (Int32 × Mem)} {x1 : Int32} {x2 : Int32} {x4 : Int32} {M : Mem} (hC : Cx p s m args c cL_isTree RL 8 G) (hr : meth.sig.returnType = some .boolean) (hlk : meth.locks = false) (hX : XF G s) (hlt : l.stackTraces = false) (hk32 : ∀ (u : Nat) (x1 : Int32) (x2 : Int32) (x3 : Int32) (x4 : Int32) (M : Mem), u + v32 ≤ 2753 → k32 x1 x2 x3 x4 M = some (rv, Mf) → V p l e (rmc 11 2753) s m args below meth c 8 G (u) (6 * (u)) (MQ below (gQ G (some (.int rv)) Mf) args s 2753 (6 * 2753) (gA G)) 32 [(0, .ref (adr G 6 0)), (1, .int x1), (2, .int x2), (3, .int x3), (4, .int x4)] [] M) (hv32 : 0 ≤ v32) (hu : u + (0 + v32) ≤ 2753) (h : B_L_isTree_195 k32 x1 x2 x4 M = some (rv, Mf)) : V p l e (rmc 11 2753) s m args below meth c 8 G (u) (6 * (u)) (MQ below (gQ G (some (.int rv)) Mf) args s 2753 (6 * 2753) (gA G)) 195 [(0, .ref (adr G 6 0)), (1, .int x1), (2, .int x2), (4, .int x4)] [] M := by
  refine V_iconst hC (0 : Int32) dL_isTree_195 (by decide) ?_
  refine V_widen (k := u + 0) (n := 6 * (u + 0)) (by omega) (by omega) ?_
  exact b_L_isTree_196 hC hr hlk hX hlt hk32 hv32 (by omega) h
set_option maxRecDepth 100000 in
set_option maxHeartbeats 8000000 in
theorem b_L_isTree_147 {u : Nat} {v32 : Nat} {rv : Int32} {Mf : Mem} {k32 : Int32 → Int32 → Int32 → Int32 → Mem → Option (Int32 × Mem)} {x1 : Int32} {x2 : Int32} {x3 : Int32} {x4 : Int32} {x5 : Int32} {M : Mem} (hC : Cx p s m args c cL_isTree RL 8 G) (hr : meth.sig.returnType = some .boolean) (hlk : meth.locks = false) (hX : XF G s) (hlt : l.stackTraces = false) (hk32 : ∀ (u : Nat) (x1 : Int32) (x2 : Int32) (x3 : Int32) (x4 : Int32) (M : Mem), u + v32 ≤ 2753 → k32 x1 x2 x3 x4 M = some (rv, Mf) → V p l e (rmc 11 2753) s m args below meth c 8 G (u) (6 * (u)) (MQ below (gQ G (some (.int rv)) Mf) args s 2753 (6 * 2753) (gA G)) 32 [(0, .ref (adr G 6 0)), (1, .int x1), (2, .int x2), (3, .int x3), (4, .int x4)] [] M) (hv32 : 0 ≤ v32) (hu : u + (4 + v32) ≤ 2753) (h : B_L_isTree_147 k32 x1 x2 x3 x4 x5 M = some (rv, Mf)) : V p l e (rmc 11 2753) s m args below meth c 8 G (u) (6 * (u)) (MQ below (gQ G (some (.int rv)) Mf) args s 2753 (6 * 2753) (gA G)) 147 [(0, .ref (adr G 6 0)), (1, .int x1), (2, .int x2), (3, .int x3), (4, .int x4), (5, .int x5)] [] M := by
  refine V_iload_n hC dL_isTree_147 rfl 2 rfl ?_
  refine V_aload_n hC dL_isTree_148 rfl 0 rfl ?_
  refine V_iload hC dL_isTree_149 4 rfl ?_
  refine V_iconst hC (1 : Int32) dL_isTree_151 (by decide) ?_
  obtain ⟨q12, e12, h⟩ := bind_some h
  refine V_cW hC hX [.ref (adr G 6 0), .int x4, .int (1 : Int32)] (c_L_section (l := l) (rv := q12.1) (Mf := q12.2) hlt hC.2.2.2.2.2.2.2 e12) kx_L_section gw_977 gw_976 ⟨Nat.le_of_ble_eq_true rfl, Nat.le_of_ble_eq_true rfl⟩ rfl (Nat.le_of_ble_eq_true rfl) dL_isTree_152 ⟨by show _ ≤ 2753; omega, by show _ ≤ 6 * 2753; omega⟩ rfl ?_
  refine V_iadd hC dL_isTree_155 ?_
  refine V_istore_n hC ([(2, .int (x2 + q12.1)), (0, .ref (adr G 6 0)), (1, .int x1), (3, .int x3), (4, .int x4), (5, .int x5)]) dL_isTree_156 rfl (by decide) rfl ?_
  refine V_iload_n hC dL_isTree_157 rfl 3 rfl ?_
  refine V_if_eq hC 195 dL_isTree_158 (by decide) (fun c13 => ?_) (fun c13 => ?_)
  · have h := ite_t c13 h
    refine V_sub [1, 2, 0, 4] rfl ?_
    refine V_widen (k := u + 1) (n := 6 * (u + 1)) (by omega) (by omega) ?_
    exact b_L_isTree_195 hC hr hlk hX hlt hk32 hv32 (by omega) h
  · have h := ite_f c13 h
    refine V_iload hC dL_isTree_161 5 rfl ?_
    refine V_aload_n hC dL_isTree_163 rfl 1 rfl ?_
    refine V_iload hC dL_isTree_164 4 rfl ?_
    refine V_iconst hC (4 : Int32) dL_isTree_166 (by decide) ?_
    obtain ⟨q14, e14, h⟩ := bind_some h
    refine V_cW hC hX [.ref (adr G 6 0), .int x4, .int (4 : Int32)] (c_L_section (l := l) (rv := q14.1) (Mf := q14.2) hlt hC.2.2.2.2.2.2.2 e14) kx_L_section gw_977 gw_976 ⟨Nat.le_of_ble_eq_true rfl, Nat.le_of_ble_eq_true rfl⟩ rfl (Nat.le_of_ble_eq_true rfl) dL_isTree_167 ⟨by show _ ≤ 2753; omega, by show _ ≤ 6 * 2753; omega⟩ rfl ?_
    refine V_icmp_ne hC 195 dL_isTree_170 (by decide) (fun c15 => ?_) (fun c15 => ?_)
    · have h := ite_f c15 h
      refine V_sub [1, 2, 0, 4] rfl ?_
      refine V_widen (k := u + 2) (n := 6 * (u + 2)) (by omega) (by omega) ?_
      exact b_L_isTree_195 hC hr hlk hX hlt hk32 hv32 (by omega) h
    · have h := ite_t c15 h
      refine V_aload_n hC dL_isTree_173 rfl 1 rfl ?_
      refine V_iload hC dL_isTree_174 4 rfl ?_
      refine V_aload_n hC dL_isTree_176 rfl 1 rfl ?_
      refine V_iload hC dL_isTree_177 4 rfl ?_
      refine V_iconst hC (1 : Int32) dL_isTree_179 (by decide) ?_
      obtain ⟨q16, e16, h⟩ := bind_some h
      refine V_cW hC hX [.ref (adr G 6 0), .int x4, .int (1 : Int32)] (c_L_section (l := l) (rv := q16.1) (Mf := q16.2) hlt hC.2.2.2.2.2.2.2 e16) kx_L_section gw_977 gw_976 ⟨Nat.le_of_ble_eq_true rfl, Nat.le_of_ble_eq_true rfl⟩ rfl (Nat.le_of_ble_eq_true rfl) dL_isTree_180 ⟨by show _ ≤ 2753; omega, by show _ ≤ 6 * 2753; omega⟩ rfl ?_
      obtain ⟨q17, e17, h⟩ := bind_some h
      refine V_cW hC hX [.ref (adr G 6 0), .int x4, .int q16.1] (c_L_child (l := l) (rv := q17.1) (Mf := q17.2) hlt hC.2.2.2.2.2.2.2 e17) kx_L_child gw_1062 gw_1061 ⟨Nat.le_of_ble_eq_true rfl, Nat.le_of_ble_eq_true rfl⟩ rfl (Nat.le_of_ble_eq_true rfl) dL_isTree_183 ⟨by show _ ≤ 2753; omega, by show _ ≤ 6 * 2753; omega⟩ rfl ?_
      refine V_bipush hC ((-53) : Int32) dL_isTree_186 (by decide) ?_
      refine V_icmp_ne hC 195 dL_isTree_188 (by decide) (fun c18 => ?_) (fun c18 => ?_)
      · have h := ite_f c18 h
        refine V_sub [1, 2, 0, 4] rfl ?_
        refine V_widen (k := u + 4) (n := 6 * (u + 4)) (by omega) (by omega) ?_
        exact b_L_isTree_195 hC hr hlk hX hlt hk32 hv32 (by omega) h
      · have h := ite_t c18 h
        refine V_iconst hC (1 : Int32) dL_isTree_191 (by decide) ?_
        refine V_goto hC 196 dL_isTree_192 (by decide) ?_
        refine V_sub [1, 2, 0, 4] rfl ?_
        refine V_widen (k := u + 4) (n := 6 * (u + 4)) (by omega) (by omega) ?_
        exact b_L_isTree_196 hC hr hlk hX hlt hk32 hv32 (by omega) h
set_option maxRecDepth 100000 in
set_option maxHeartbeats 8000000 in
theorem b_L_isTree_140 {u : Nat} {v32 : Nat} {v64 : Nat} {rv : Int32} {Mf : Mem} {k32 : Int32 → Int32 → Int32 → Int32 → Mem → Option (Int32 × Mem)} {k64 : Int32 → Int32 → Int32 → Mem → Option (Int32 × Mem)} {x1 : Int32} {x2 : Int32} {x4 : Int32} {x5 : Int32} {x6 : Int32} {z0 : Int32} {M : Mem} (hC : Cx p s m args c cL_isTree RL 8 G) (hr : meth.sig.returnType = some .boolean) (hlk : meth.locks = false) (hX : XF G s) (hlt : l.stackTraces = false) (hk32 : ∀ (u : Nat) (x1 : Int32) (x2 : Int32) (x3 : Int32) (x4 : Int32) (M : Mem), u + v32 ≤ 2753 → k32 x1 x2 x3 x4 M = some (rv, Mf) → V p l e (rmc 11 2753) s m args below meth c 8 G (u) (6 * (u)) (MQ below (gQ G (some (.int rv)) Mf) args s 2753 (6 * 2753) (gA G)) 32 [(0, .ref (adr G 6 0)), (1, .int x1), (2, .int x2), (3, .int x3), (4, .int x4)] [] M) (hk64 : ∀ (u : Nat) (x3 : Int32) (x5 : Int32) (x6 : Int32) (M : Mem), u + v64 ≤ 2753 → k64 x3 x5 x6 M = some (rv, Mf) → V p l e (rmc 11 2753) s m args below meth c 8 G (u) (6 * (u)) (MQ below (gQ G (some (.int rv)) Mf) args s 2753 (6 * 2753) (gA G)) 64 [(0, .ref (adr G 6 0)), (1, .int x1), (2, .int x2), (3, .int x3), (4, .int x4), (5, .int x5), (6, .int x6)] [] M) (hv32 : 0 ≤ v32) (hv64 : 4 + v32 ≤ v64) (hu : u + (0 + v64) ≤ 2753) (h : B_L_isTree_140 k32 k64 x1 x2 x4 x5 x6 z0 M = some (rv, Mf)) : V p l e (rmc 11 2753) s m args below meth c 8 G (u) (6 * (u)) (MQ below (gQ G (some (.int rv)) Mf) args s 2753 (6 * 2753) (gA G)) 140 [(0, .ref (adr G 6 0)), (1, .int x1), (2, .int x2), (4, .int x4), (5, .int x5), (6, .int x6)] [.int z0] M := by
  refine V_istore_n hC ([(3, .int z0), (0, .ref (adr G 6 0)), (1, .int x1), (2, .int x2), (4, .int x4), (5, .int x5), (6, .int x6)]) dL_isTree_140 rfl (by decide) rfl ?_
  refine V_iinc hC (x6 + 1) ([(6, .int (x6 + 1)), (3, .int z0), (0, .ref (adr G 6 0)), (1, .int x1), (2, .int x2), (4, .int x4), (5, .int x5)]) dL_isTree_141 6 rfl rfl (by decide) rfl ?_
  refine V_goto hC 64 dL_isTree_144 (by decide) ?_
  refine V_sub [2, 3, 4, 1, 5, 6, 0] rfl ?_
  refine V_widen (k := u + 0) (n := 6 * (u + 0)) (by omega) (by omega) ?_
  exact hk64 _ _ _ _ _ (by omega) h
set_option maxRecDepth 100000 in
set_option maxHeartbeats 8000000 in
theorem b_L_isTree_139 {u : Nat} {v32 : Nat} {v64 : Nat} {rv : Int32} {Mf : Mem} {k32 : Int32 → Int32 → Int32 → Int32 → Mem → Option (Int32 × Mem)} {k64 : Int32 → Int32 → Int32 → Mem → Option (Int32 × Mem)} {x1 : Int32} {x2 : Int32} {x4 : Int32} {x5 : Int32} {x6 : Int32} {M : Mem} (hC : Cx p s m args c cL_isTree RL 8 G) (hr : meth.sig.returnType = some .boolean) (hlk : meth.locks = false) (hX : XF G s) (hlt : l.stackTraces = false) (hk32 : ∀ (u : Nat) (x1 : Int32) (x2 : Int32) (x3 : Int32) (x4 : Int32) (M : Mem), u + v32 ≤ 2753 → k32 x1 x2 x3 x4 M = some (rv, Mf) → V p l e (rmc 11 2753) s m args below meth c 8 G (u) (6 * (u)) (MQ below (gQ G (some (.int rv)) Mf) args s 2753 (6 * 2753) (gA G)) 32 [(0, .ref (adr G 6 0)), (1, .int x1), (2, .int x2), (3, .int x3), (4, .int x4)] [] M) (hk64 : ∀ (u : Nat) (x3 : Int32) (x5 : Int32) (x6 : Int32) (M : Mem), u + v64 ≤ 2753 → k64 x3 x5 x6 M = some (rv, Mf) → V p l e (rmc 11 2753) s m args below meth c 8 G (u) (6 * (u)) (MQ below (gQ G (some (.int rv)) Mf) args s 2753 (6 * 2753) (gA G)) 64 [(0, .ref (adr G 6 0)), (1, .int x1), (2, .int x2), (3, .int x3), (4, .int x4), (5, .int x5), (6, .int x6)] [] M) (hv32 : 0 ≤ v32) (hv64 : 4 + v32 ≤ v64) (hu : u + (0 + v64) ≤ 2753) (h : B_L_isTree_139 k32 k64 x1 x2 x4 x5 x6 M = some (rv, Mf)) : V p l e (rmc 11 2753) s m args below meth c 8 G (u) (6 * (u)) (MQ below (gQ G (some (.int rv)) Mf) args s 2753 (6 * 2753) (gA G)) 139 [(0, .ref (adr G 6 0)), (1, .int x1), (2, .int x2), (4, .int x4), (5, .int x5), (6, .int x6)] [] M := by
  refine V_iconst hC (0 : Int32) dL_isTree_139 (by decide) ?_
  refine V_widen (k := u + 0) (n := 6 * (u + 0)) (by omega) (by omega) ?_
  exact b_L_isTree_140 hC hr hlk hX hlt hk32 hk64 hv32 hv64 (by omega) h
set_option maxRecDepth 100000 in
set_option maxHeartbeats 8000000 in
theorem l_L_isTree_64 {v32 : Nat} {k32 : Int32 → Int32 → Int32 → Int32 → Mem → Option (Int32 × Mem)} {rv : Int32} {Mf : Mem} {x1 : Int32} {x2 : Int32} {x4 : Int32} (hC : Cx p s m args c cL_isTree RL 8 G) (hr : meth.sig.returnType = some .boolean) (hlk : meth.locks = false) (hX : XF G s) (hlt : l.stackTraces = false) (hk32 : ∀ (u : Nat) (x1 : Int32) (x2 : Int32) (x3 : Int32) (x4 : Int32) (M : Mem), u + v32 ≤ 2753 → k32 x1 x2 x3 x4 M = some (rv, Mf) → V p l e (rmc 11 2753) s m args below meth c 8 G (u) (6 * (u)) (MQ below (gQ G (some (.int rv)) Mf) args s 2753 (6 * 2753) (gA G)) 32 [(0, .ref (adr G 6 0)), (1, .int x1), (2, .int x2), (3, .int x3), (4, .int x4)] [] M) (hv32 : 0 ≤ v32) : ∀ (n : Nat) {u : Nat} {x3 : Int32} {x5 : Int32} {x6 : Int32} {M : Mem} (hu : u + (6 * n + (4 + v32)) ≤ 2753) (h : L_L_isTree_64 k32 x1 x2 x4 n x3 x5 x6 M = some (rv, Mf)), V p l e (rmc 11 2753) s m args below meth c 8 G (u) (6 * (u)) (MQ below (gQ G (some (.int rv)) Mf) args s 2753 (6 * 2753) (gA G)) 64 [(0, .ref (adr G 6 0)), (1, .int x1), (2, .int x2), (3, .int x3), (4, .int x4), (5, .int x5), (6, .int x6)] [] M := by
  intro n
  induction n with
  | zero => intro u x3 x5 x6 M hu h; cases h
  | succ n ih =>
    intro u x3 x5 x6 M hu h
    rw [Nat.mul_succ] at hu
    obtain ⟨v64, ev64⟩ : ∃ v, v = 6 * n + (4 + v32) := ⟨_, rfl⟩
    have hv64 : 4 + v32 ≤ v64 := by rw [ev64]; exact Nat.le_add_left _ _
    have hk64 : ∀ (u : Nat) (x3 : Int32) (x5 : Int32) (x6 : Int32) (M : Mem), u + v64 ≤ 2753 → L_L_isTree_64 k32 x1 x2 x4 n x3 x5 x6 M = some (rv, Mf) → V p l e (rmc 11 2753) s m args below meth c 8 G (u) (6 * (u)) (MQ below (gQ G (some (.int rv)) Mf) args s 2753 (6 * 2753) (gA G)) 64 [(0, .ref (adr G 6 0)), (1, .int x1), (2, .int x2), (3, .int x3), (4, .int x4), (5, .int x5), (6, .int x6)] [] M := fun _ _ _ _ _ hw z => ih (by rw [← ev64]; exact hw) z
    have hu : u + 6 + v64 ≤ 2753 := bud hu ev64
    clear ih ev64
    refine V_iload hC dL_isTree_64 6 rfl ?_
    refine V_aload_n hC dL_isTree_66 rfl 0 rfl ?_
    refine V_iload hC dL_isTree_67 4 rfl ?_
    refine V_iconst hC (1 : Int32) dL_isTree_69 (by decide) ?_
    obtain ⟨q10, e10, h⟩ := bind_some h
    refine V_cW hC hX [.ref (adr G 6 0), .int x4, .int (1 : Int32)] (c_L_section (l := l) (rv := q10.1) (Mf := q10.2) hlt hC.2.2.2.2.2.2.2 e10) kx_L_section gw_977 gw_976 ⟨Nat.le_of_ble_eq_true rfl, Nat.le_of_ble_eq_true rfl⟩ rfl (Nat.le_of_ble_eq_true rfl) dL_isTree_70 ⟨by show _ ≤ 2753; omega, by show _ ≤ 6 * 2753; omega⟩ rfl ?_
    refine V_icmp_ge hC 147 dL_isTree_73 (by decide) (fun c11 => ?_) (fun c11 => ?_)
    · have h := ite_t c11 h
      refine V_sub [0, 1, 2, 3, 4, 5] rfl ?_
      refine V_widen (k := u + 1) (n := 6 * (u + 1)) (by omega) (by omega) ?_
      exact b_L_isTree_147 hC hr hlk hX hlt hk32 hv32 (by omega) h
    · have h := ite_f c11 h
      refine V_iload_n hC dL_isTree_76 rfl 3 rfl ?_
      refine V_if_eq hC 147 dL_isTree_77 (by decide) (fun c19 => ?_) (fun c19 => ?_)
      · have h := ite_t c19 h
        refine V_sub [0, 1, 2, 3, 4, 5] rfl ?_
        refine V_widen (k := u + 1) (n := 6 * (u + 1)) (by omega) (by omega) ?_
        exact b_L_isTree_147 hC hr hlk hX hlt hk32 hv32 (by omega) h
      · have h := ite_f c19 h
        refine V_aload_n hC dL_isTree_80 rfl 0 rfl ?_
        refine V_iload hC dL_isTree_81 4 rfl ?_
        refine V_iload hC dL_isTree_83 6 rfl ?_
        obtain ⟨q20, e20, h⟩ := bind_some h
        refine V_cW hC hX [.ref (adr G 6 0), .int x4, .int x6] (c_L_child (l := l) (rv := q20.1) (Mf := q20.2) hlt hC.2.2.2.2.2.2.2 e20) kx_L_child gw_1062 gw_1061 ⟨Nat.le_of_ble_eq_true rfl, Nat.le_of_ble_eq_true rfl⟩ rfl (Nat.le_of_ble_eq_true rfl) dL_isTree_85 ⟨by show _ ≤ 2753; omega, by show _ ≤ 6 * 2753; omega⟩ rfl ?_
        refine V_istore hC ([(7, .int q20.1), (0, .ref (adr G 6 0)), (1, .int x1), (2, .int x2), (3, .int x3), (4, .int x4), (5, .int x5), (6, .int x6)]) dL_isTree_88 (by decide) rfl ?_
        refine V_iload hC dL_isTree_90 6 rfl ?_
        refine V_iconst hC (1 : Int32) dL_isTree_92 (by decide) ?_
        refine V_aload_n hC dL_isTree_93 rfl 1 rfl ?_
        refine V_iload hC dL_isTree_94 0 rfl ?_
        refine V_iconst hC (4 : Int32) dL_isTree_96 (by decide) ?_
        obtain ⟨q21, e21, h⟩ := bind_some h
        refine V_cW hC hX [.ref (adr G 6 0), .int q20.1, .int (4 : Int32)] (c_L_section (l := l) (rv := q21.1) (Mf := q21.2) hlt hC.2.2.2.2.2.2.2 e21) kx_L_section gw_977 gw_976 ⟨Nat.le_of_ble_eq_true rfl, Nat.le_of_ble_eq_true rfl⟩ rfl (Nat.le_of_ble_eq_true rfl) dL_isTree_97 ⟨by show _ ≤ 2753; omega, by show _ ≤ 6 * 2753; omega⟩ rfl ?_
        refine V_iadd hC dL_isTree_100 ?_
        refine V_iadd hC dL_isTree_101 ?_
        refine V_istore hC ([(5, .int (x5 + ((1 : Int32) + q21.1))), (7, .int q20.1), (0, .ref (adr G 6 0)), (1, .int x1), (2, .int x2), (3, .int x3), (4, .int x4), (6, .int x6)]) dL_isTree_102 (by decide) rfl ?_
        refine V_aload_n hC dL_isTree_104 rfl 2 rfl ?_
        refine V_iload hC dL_isTree_105 1 rfl ?_
        refine V_iconst hC (0 : Int32) dL_isTree_107 (by decide) ?_
        obtain ⟨q22, e22, h⟩ := bind_some h
        refine V_cW hC hX [.ref (adr G 6 0), .int q20.1, .int (0 : Int32)] (c_L_section (l := l) (rv := q22.1) (Mf := q22.2) hlt hC.2.2.2.2.2.2.2 e22) kx_L_section gw_977 gw_976 ⟨Nat.le_of_ble_eq_true rfl, Nat.le_of_ble_eq_true rfl⟩ rfl (Nat.le_of_ble_eq_true rfl) dL_isTree_108 ⟨by show _ ≤ 2753; omega, by show _ ≤ 6 * 2753; omega⟩ rfl ?_
        refine V_iload hC dL_isTree_111 6 rfl ?_
        refine V_icmp_ne hC 139 dL_isTree_113 (by decide) (fun c23 => ?_) (fun c23 => ?_)
        · have h := ite_f c23 h
          refine V_sub [2, 3, 4, 6, 0, 7] rfl ?_
          refine V_widen (k := u + 4) (n := 6 * (u + 4)) (by omega) (by omega) ?_
          exact b_L_isTree_139 hC hr hlk hX hlt hk32 hk64 hv32 hv64 (by omega) h
        · have h := ite_t c23 h
          refine V_aload_n hC dL_isTree_116 rfl 2 rfl ?_
          refine V_iload hC dL_isTree_117 1 rfl ?_
          refine V_iconst hC (2 : Int32) dL_isTree_119 (by decide) ?_
          obtain ⟨q24, e24, h⟩ := bind_some h
          refine V_cW hC hX [.ref (adr G 6 0), .int q20.1, .int (2 : Int32)] (c_L_section (l := l) (rv := q24.1) (Mf := q24.2) hlt hC.2.2.2.2.2.2.2 e24) kx_L_section gw_977 gw_976 ⟨Nat.le_of_ble_eq_true rfl, Nat.le_of_ble_eq_true rfl⟩ rfl (Nat.le_of_ble_eq_true rfl) dL_isTree_120 ⟨by show _ ≤ 2753; omega, by show _ ≤ 6 * 2753; omega⟩ rfl ?_
          refine V_aload_n hC dL_isTree_123 rfl 2 rfl ?_
          refine V_iload hC dL_isTree_124 6 rfl ?_
          refine V_iconst hC (2 : Int32) dL_isTree_126 (by decide) ?_
          obtain ⟨q25, e25, h⟩ := bind_some h
          refine V_cW hC hX [.ref (adr G 6 0), .int x4, .int (2 : Int32)] (c_L_section (l := l) (rv := q25.1) (Mf := q25.2) hlt hC.2.2.2.2.2.2.2 e25) kx_L_section gw_977 gw_976 ⟨Nat.le_of_ble_eq_true rfl, Nat.le_of_ble_eq_true rfl⟩ rfl (Nat.le_of_ble_eq_true rfl) dL_isTree_127 ⟨by show _ ≤ 2753; omega, by show _ ≤ 6 * 2753; omega⟩ rfl ?_
          refine V_iconst hC (1 : Int32) dL_isTree_130 (by decide) ?_
          refine V_iadd hC dL_isTree_131 ?_
          refine V_icmp_ne hC 139 dL_isTree_132 (by decide) (fun c26 => ?_) (fun c26 => ?_)
          · have h := ite_f c26 h
            refine V_sub [2, 3, 4, 6, 0, 7] rfl ?_
            refine V_widen (k := u + 6) (n := 6 * (u + 6)) (by omega) (by omega) ?_
            exact b_L_isTree_139 hC hr hlk hX hlt hk32 hk64 hv32 hv64 (by omega) h
          · have h := ite_t c26 h
            refine V_iconst hC (1 : Int32) dL_isTree_135 (by decide) ?_
            refine V_goto hC 140 dL_isTree_136 (by decide) ?_
            refine V_sub [2, 3, 4, 6, 0, 7] rfl ?_
            refine V_widen (k := u + 6) (n := 6 * (u + 6)) (by omega) (by omega) ?_
            exact b_L_isTree_140 hC hr hlk hX hlt hk32 hk64 hv32 hv64 (by omega) h
set_option maxRecDepth 100000 in
set_option maxHeartbeats 8000000 in
theorem l_L_isTree_32 {rv : Int32} {Mf : Mem} (hC : Cx p s m args c cL_isTree RL 8 G) (hr : meth.sig.returnType = some .boolean) (hlk : meth.locks = false) (hX : XF G s) (hlt : l.stackTraces = false) : ∀ (n : Nat) {u : Nat} {x1 : Int32} {x2 : Int32} {x3 : Int32} {x4 : Int32} {M : Mem} (hu : u + (131 * n + (0)) ≤ 2753) (h : L_L_isTree_32 n x1 x2 x3 x4 M = some (rv, Mf)), V p l e (rmc 11 2753) s m args below meth c 8 G (u) (6 * (u)) (MQ below (gQ G (some (.int rv)) Mf) args s 2753 (6 * 2753) (gA G)) 32 [(0, .ref (adr G 6 0)), (1, .int x1), (2, .int x2), (3, .int x3), (4, .int x4)] [] M := by
  intro n
  induction n with
  | zero => intro u x1 x2 x3 x4 M hu h; cases h
  | succ n ih =>
    intro u x1 x2 x3 x4 M hu h
    rw [Nat.mul_succ] at hu
    obtain ⟨v32, ev32⟩ : ∃ v, v = 131 * n + (0) := ⟨_, rfl⟩
    have hv32 : 0 ≤ v32 := by rw [ev32]; exact Nat.le_add_left _ _
    have hk32 : ∀ (u : Nat) (x1 : Int32) (x2 : Int32) (x3 : Int32) (x4 : Int32) (M : Mem), u + v32 ≤ 2753 → L_L_isTree_32 n x1 x2 x3 x4 M = some (rv, Mf) → V p l e (rmc 11 2753) s m args below meth c 8 G (u) (6 * (u)) (MQ below (gQ G (some (.int rv)) Mf) args s 2753 (6 * 2753) (gA G)) 32 [(0, .ref (adr G 6 0)), (1, .int x1), (2, .int x2), (3, .int x3), (4, .int x4)] [] M := fun _ _ _ _ _ _ hw z => ih (by rw [← ev32]; exact hw) z
    have hu : u + 131 + v32 ≤ 2753 := bud hu ev32
    clear ih ev32
    refine V_iload hC dL_isTree_32 4 rfl ?_
    refine V_bipush hC (20 : Int32) dL_isTree_34 (by decide) ?_
    refine V_icmp_ge hC 203 dL_isTree_36 (by decide) (fun c3 => ?_) (fun c3 => ?_)
    · have h := ite_t c3 h
      refine V_sub [0, 1, 2, 3] rfl ?_
      refine V_widen (k := u + 0) (n := 6 * (u + 0)) (by omega) (by omega) ?_
      exact b_L_isTree_203 hC hr hlk hX hlt (by omega) h
    · have h := ite_f c3 h
      refine V_iload_n hC dL_isTree_39 rfl 3 rfl ?_
      refine V_if_eq hC 203 dL_isTree_40 (by decide) (fun c7 => ?_) (fun c7 => ?_)
      · have h := ite_t c7 h
        refine V_sub [0, 1, 2, 3] rfl ?_
        refine V_widen (k := u + 0) (n := 6 * (u + 0)) (by omega) (by omega) ?_
        exact b_L_isTree_203 hC hr hlk hX hlt (by omega) h
      · have h := ite_f c7 h
        refine V_aload_n hC dL_isTree_43 rfl 0 rfl ?_
        refine V_iload hC dL_isTree_44 4 rfl ?_
        refine V_iconst hC (0 : Int32) dL_isTree_46 (by decide) ?_
        obtain ⟨q8, e8, h⟩ := bind_some h
        refine V_cW hC hX [.ref (adr G 6 0), .int x4, .int (0 : Int32)] (c_L_section (l := l) (rv := q8.1) (Mf := q8.2) hlt hC.2.2.2.2.2.2.2 e8) kx_L_section gw_977 gw_976 ⟨Nat.le_of_ble_eq_true rfl, Nat.le_of_ble_eq_true rfl⟩ rfl (Nat.le_of_ble_eq_true rfl) dL_isTree_47 ⟨by show _ ≤ 2753; omega, by show _ ≤ 6 * 2753; omega⟩ rfl ?_
        refine V_bipush hC ((-2) : Int32) dL_isTree_50 (by decide) ?_
        refine V_icmp_le hC 197 dL_isTree_52 (by decide) (fun c9 => ?_) (fun c9 => ?_)
        · have h := ite_t c9 h
          refine V_widen (k := u + 1) (n := 6 * (u + 1)) (by omega) (by omega) ?_
          exact b_L_isTree_197 hC hr hlk hX hlt hk32 hv32 (by omega) h
        · have h := ite_f c9 h
          refine V_iinc hC (x1 + 1) ([(1, .int (x1 + 1)), (0, .ref (adr G 6 0)), (2, .int x2), (3, .int x3), (4, .int x4)]) dL_isTree_55 1 rfl rfl (by decide) rfl ?_
          refine V_iconst hC (0 : Int32) dL_isTree_58 (by decide) ?_
          refine V_istore hC ([(5, .int (0 : Int32)), (1, .int (x1 + 1)), (0, .ref (adr G 6 0)), (2, .int x2), (3, .int x3), (4, .int x4)]) dL_isTree_59 (by decide) rfl ?_
          refine V_iconst hC (0 : Int32) dL_isTree_61 (by decide) ?_
          refine V_istore hC ([(6, .int (0 : Int32)), (5, .int (0 : Int32)), (1, .int (x1 + 1)), (0, .ref (adr G 6 0)), (2, .int x2), (3, .int x3), (4, .int x4)]) dL_isTree_62 (by decide) rfl ?_
          refine V_sub [3, 2, 4, 5, 6, 1, 0] rfl ?_
          refine V_widen (k := u + 1) (n := 6 * (u + 1)) (by omega) (by omega) ?_
          exact l_L_isTree_64 hC hr hlk hX hlt hk32 hv32 21 (by omega) h
set_option maxRecDepth 100000 in
set_option maxHeartbeats 8000000 in
theorem b_L_isTree_28 {u : Nat} {rv : Int32} {Mf : Mem} {x1 : Int32} {x2 : Int32} {z0 : Int32} {M : Mem} (hC : Cx p s m args c cL_isTree RL 8 G) (hr : meth.sig.returnType = some .boolean) (hlk : meth.locks = false) (hX : XF G s) (hlt : l.stackTraces = false) (hu : u + (2751) ≤ 2753) (h : B_L_isTree_28 x1 x2 z0 M = some (rv, Mf)) : V p l e (rmc 11 2753) s m args below meth c 8 G (u) (6 * (u)) (MQ below (gQ G (some (.int rv)) Mf) args s 2753 (6 * 2753) (gA G)) 28 [(0, .ref (adr G 6 0)), (1, .int x1), (2, .int x2)] [.int z0] M := by
  refine V_istore_n hC ([(3, .int z0), (0, .ref (adr G 6 0)), (1, .int x1), (2, .int x2)]) dL_isTree_28 rfl (by decide) rfl ?_
  refine V_iconst hC (0 : Int32) dL_isTree_29 (by decide) ?_
  refine V_istore hC ([(4, .int (0 : Int32)), (3, .int z0), (0, .ref (adr G 6 0)), (1, .int x1), (2, .int x2)]) dL_isTree_30 (by decide) rfl ?_
  refine V_sub [2, 3, 4, 1, 0] rfl ?_
  refine V_widen (k := u + 0) (n := 6 * (u + 0)) (by omega) (by omega) ?_
  exact l_L_isTree_32 hC hr hlk hX hlt 21 (by omega) h
set_option maxRecDepth 100000 in
set_option maxHeartbeats 8000000 in
theorem b_L_isTree_27 {u : Nat} {rv : Int32} {Mf : Mem} {x1 : Int32} {x2 : Int32} {M : Mem} (hC : Cx p s m args c cL_isTree RL 8 G) (hr : meth.sig.returnType = some .boolean) (hlk : meth.locks = false) (hX : XF G s) (hlt : l.stackTraces = false) (hu : u + (2751) ≤ 2753) (h : B_L_isTree_27 x1 x2 M = some (rv, Mf)) : V p l e (rmc 11 2753) s m args below meth c 8 G (u) (6 * (u)) (MQ below (gQ G (some (.int rv)) Mf) args s 2753 (6 * 2753) (gA G)) 27 [(0, .ref (adr G 6 0)), (1, .int x1), (2, .int x2)] [] M := by
  refine V_iconst hC (0 : Int32) dL_isTree_27 (by decide) ?_
  refine V_widen (k := u + 0) (n := 6 * (u + 0)) (by omega) (by omega) ?_
  exact b_L_isTree_28 hC hr hlk hX hlt (by omega) h
set_option maxRecDepth 100000 in
set_option maxHeartbeats 8000000 in
theorem c_L_isTree {l : Launch} {G : Geo} {rv : Int32} {Mf : Mem} {M : Mem} (hlt : l.stackTraces = false) (hG : gD G) (h : f_L_isTree M = some (rv, Mf)) : Met l yL_isTree (.code yL_isTree cL_isTree 8 (some .boolean) :: GL) (rmc 11 2753) (gPx G [.ref (adr G 6 0)] M) (gQ G (some (.int rv)) Mf) 2753 (6 * 2753) (gA G) := by
  refine PMet_of (own := RL) (L := [(0, .ref (adr G 6 0))]) hG (by decide +kernel) rfl (Nat.le_of_ble_eq_true rfl) rfl ?_
  intro p e s m args below meth c hC hX hr hlk
  obtain ⟨u, eu⟩ : ∃ u : Nat, u = 0 := ⟨0, rfl⟩
  have hu : u + 2753 ≤ 2753 := by omega
  refine V_u (u := u) eu ?_
  refine V_iconst hC (0 : Int32) dL_isTree_0 (by decide) ?_
  refine V_istore_n hC ([(1, .int (0 : Int32)), (0, .ref (adr G 6 0))]) dL_isTree_1 rfl (by decide) rfl ?_
  refine V_iconst hC (0 : Int32) dL_isTree_2 (by decide) ?_
  refine V_istore_n hC ([(2, .int (0 : Int32)), (1, .int (0 : Int32)), (0, .ref (adr G 6 0))]) dL_isTree_3 rfl (by decide) rfl ?_
  refine V_aload_n hC dL_isTree_4 rfl 2 rfl ?_
  refine V_iconst hC (0 : Int32) dL_isTree_5 (by decide) ?_
  refine V_iconst hC (0 : Int32) dL_isTree_6 (by decide) ?_
  obtain ⟨q1, e1, h⟩ := bind_some h
  refine V_cW hC hX [.ref (adr G 6 0), .int (0 : Int32), .int (0 : Int32)] (c_L_section (l := l) (rv := q1.1) (Mf := q1.2) hlt hC.2.2.2.2.2.2.2 e1) kx_L_section gw_977 gw_976 ⟨Nat.le_of_ble_eq_true rfl, Nat.le_of_ble_eq_true rfl⟩ rfl (Nat.le_of_ble_eq_true rfl) dL_isTree_7 ⟨by show _ ≤ 2753; omega, by show _ ≤ 6 * 2753; omega⟩ rfl ?_
  refine V_iconst hC ((-1) : Int32) dL_isTree_10 (by decide) ?_
  refine V_icmp_ne hC 27 dL_isTree_11 (by decide) (fun c2 => ?_) (fun c2 => ?_)
  · have h := ite_f c2 h
    refine V_sub [2, 1, 0] rfl ?_
    refine V_widen (k := u + 1) (n := 6 * (u + 1)) (by omega) (by omega) ?_
    exact b_L_isTree_27 hC hr hlk hX hlt (by omega) h
  · have h := ite_t c2 h
    refine V_aload_n hC dL_isTree_14 rfl 2 rfl ?_
    refine V_iconst hC (0 : Int32) dL_isTree_15 (by decide) ?_
    refine V_iconst hC (2 : Int32) dL_isTree_16 (by decide) ?_
    obtain ⟨q27, e27, h⟩ := bind_some h
    refine V_cW hC hX [.ref (adr G 6 0), .int (0 : Int32), .int (2 : Int32)] (c_L_section (l := l) (rv := q27.1) (Mf := q27.2) hlt hC.2.2.2.2.2.2.2 e27) kx_L_section gw_977 gw_976 ⟨Nat.le_of_ble_eq_true rfl, Nat.le_of_ble_eq_true rfl⟩ rfl (Nat.le_of_ble_eq_true rfl) dL_isTree_17 ⟨by show _ ≤ 2753; omega, by show _ ≤ 6 * 2753; omega⟩ rfl ?_
    refine V_if_ne hC 27 dL_isTree_20 (by decide) (fun c28 => ?_) (fun c28 => ?_)
    · have h := ite_f c28 h
      refine V_sub [2, 1, 0] rfl ?_
      refine V_widen (k := u + 2) (n := 6 * (u + 2)) (by omega) (by omega) ?_
      exact b_L_isTree_27 hC hr hlk hX hlt (by omega) h
    · have h := ite_t c28 h
      refine V_iconst hC (1 : Int32) dL_isTree_23 (by decide) ?_
      refine V_goto hC 28 dL_isTree_24 (by decide) ?_
      refine V_sub [2, 1, 0] rfl ?_
      refine V_widen (k := u + 2) (n := 6 * (u + 2)) (by omega) (by omega) ?_
      exact b_L_isTree_28 hC hr hlk hX hlt (by omega) h
set_option maxRecDepth 100000 in
set_option maxHeartbeats 8000000 in
theorem b_L_isTold_201 {u : Nat} {v9 : Nat} {rv : Int32} {Mf : Mem} {k9 : Int32 → Int32 → Mem → Option (Int32 × Mem)} {x2 : Int32} {x3 : Int32} {z0 : Int32} {M : Mem} (hC : Cx p s m args c cL_isTold RL 9 G) (hr : meth.sig.returnType = some .boolean) (hlk : meth.locks = false) (hX : XF G s) (hlt : l.stackTraces = false) (hk9 : ∀ (u : Nat) (x1 : Int32) (x3 : Int32) (M : Mem), u + v9 ≤ 0 → k9 x1 x3 M = some (rv, Mf) → V p l e (rmc 11 0) s m args below meth c 9 G (u) (6 * (u)) (MQ below (gQ G (some (.int rv)) Mf) args s 0 (6 * 0) (gA G)) 9 [(0, .ref (adr G 6 0)), (1, .int x1), (2, .int x2), (3, .int x3)] [] M) (hv9 : 0 ≤ v9) (hu : u + (0 + v9) ≤ 0) (h : B_L_isTold_201 k9 x2 x3 z0 M = some (rv, Mf)) : V p l e (rmc 11 0) s m args below meth c 9 G (u) (6 * (u)) (MQ below (gQ G (some (.int rv)) Mf) args s 0 (6 * 0) (gA G)) 201 [(0, .ref (adr G 6 0)), (2, .int x2), (3, .int x3)] [.int z0] M := by
  refine V_istore_n hC ([(1, .int z0), (0, .ref (adr G 6 0)), (2, .int x2), (3, .int x3)]) dL_isTold_201 rfl (by decide) rfl ?_
  refine V_iinc hC (x3 + 1) ([(3, .int (x3 + 1)), (1, .int z0), (0, .ref (adr G 6 0)), (2, .int x2)]) dL_isTold_202 3 rfl rfl (by decide) rfl ?_
  refine V_goto hC 9 dL_isTold_205 (by decide) ?_
  refine V_sub [2, 1, 3, 0] rfl ?_
  refine V_widen (k := u + 0) (n := 6 * (u + 0)) (by omega) (by omega) ?_
  exact hk9 _ _ _ _ (by omega) h
set_option maxRecDepth 100000 in
set_option maxHeartbeats 8000000 in
theorem b_L_isTold_200 {u : Nat} {v9 : Nat} {rv : Int32} {Mf : Mem} {k9 : Int32 → Int32 → Mem → Option (Int32 × Mem)} {x2 : Int32} {x3 : Int32} {M : Mem} (hC : Cx p s m args c cL_isTold RL 9 G) (hr : meth.sig.returnType = some .boolean) (hlk : meth.locks = false) (hX : XF G s) (hlt : l.stackTraces = false) (hk9 : ∀ (u : Nat) (x1 : Int32) (x3 : Int32) (M : Mem), u + v9 ≤ 0 → k9 x1 x3 M = some (rv, Mf) → V p l e (rmc 11 0) s m args below meth c 9 G (u) (6 * (u)) (MQ below (gQ G (some (.int rv)) Mf) args s 0 (6 * 0) (gA G)) 9 [(0, .ref (adr G 6 0)), (1, .int x1), (2, .int x2), (3, .int x3)] [] M) (hv9 : 0 ≤ v9) (hu : u + (0 + v9) ≤ 0) (h : B_L_isTold_200 k9 x2 x3 M = some (rv, Mf)) : V p l e (rmc 11 0) s m args below meth c 9 G (u) (6 * (u)) (MQ below (gQ G (some (.int rv)) Mf) args s 0 (6 * 0) (gA G)) 200 [(0, .ref (adr G 6 0)), (2, .int x2), (3, .int x3)] [] M := by
  refine V_iconst hC (0 : Int32) dL_isTold_200 (by decide) ?_
  refine V_widen (k := u + 0) (n := 6 * (u + 0)) (by omega) (by omega) ?_
  exact b_L_isTold_201 hC hr hlk hX hlt hk9 hv9 (by omega) h
set_option maxRecDepth 100000 in
set_option maxHeartbeats 8000000 in
theorem b_L_isTold_181 {u : Nat} {v9 : Nat} {rv : Int32} {Mf : Mem} {k9 : Int32 → Int32 → Mem → Option (Int32 × Mem)} {x2 : Int32} {x3 : Int32} {M : Mem} (hC : Cx p s m args c cL_isTold RL 9 G) (hr : meth.sig.returnType = some .boolean) (hlk : meth.locks = false) (hX : XF G s) (hlt : l.stackTraces = false) (hk9 : ∀ (u : Nat) (x1 : Int32) (x3 : Int32) (M : Mem), u + v9 ≤ 0 → k9 x1 x3 M = some (rv, Mf) → V p l e (rmc 11 0) s m args below meth c 9 G (u) (6 * (u)) (MQ below (gQ G (some (.int rv)) Mf) args s 0 (6 * 0) (gA G)) 9 [(0, .ref (adr G 6 0)), (1, .int x1), (2, .int x2), (3, .int x3)] [] M) (hv9 : 0 ≤ v9) (hu : u + (0 + v9) ≤ 0) (h : B_L_isTold_181 k9 x2 x3 M = some (rv, Mf)) : V p l e (rmc 11 0) s m args below meth c 9 G (u) (6 * (u)) (MQ below (gQ G (some (.int rv)) Mf) args s 0 (6 * 0) (gA G)) 181 [(0, .ref (adr G 6 0)), (2, .int x2), (3, .int x3)] [] M := by
  refine V_aload_n hC dL_isTold_181 rfl 0 rfl ?_
  refine V_iload_n hC dL_isTold_182 rfl 2 rfl ?_
  refine V_iconst hC (3 : Int32) dL_isTold_183 (by decide) ?_
  obtain ⟨q10, e10, h⟩ := bind_some h
  refine V_cW0 hC hX [.ref (adr G 6 0), .int x3, .int (3 : Int32)] (c0_L_entry (l := l) (rv := q10.1) (Mf := q10.2) hlt hC.2.2.2.2.2.2.2 e10) kx_L_entry gw_1104 gw_1103 ⟨Nat.le_of_ble_eq_true rfl, Nat.le_of_ble_eq_true rfl⟩ rfl (Nat.le_of_ble_eq_true rfl) dL_isTold_184 ⟨by show _ ≤ 0; omega, by show _ ≤ 6 * 0; omega⟩ rfl ?_
  refine V_aload_n hC dL_isTold_187 rfl 0 rfl ?_
  refine V_iload_n hC dL_isTold_188 rfl 2 rfl ?_
  refine V_iconst hC (4 : Int32) dL_isTold_189 (by decide) ?_
  obtain ⟨q11, e11, h⟩ := bind_some h
  refine V_cW0 hC hX [.ref (adr G 6 0), .int x3, .int (4 : Int32)] (c0_L_entry (l := l) (rv := q11.1) (Mf := q11.2) hlt hC.2.2.2.2.2.2.2 e11) kx_L_entry gw_1104 gw_1103 ⟨Nat.le_of_ble_eq_true rfl, Nat.le_of_ble_eq_true rfl⟩ rfl (Nat.le_of_ble_eq_true rfl) dL_isTold_190 ⟨by show _ ≤ 0; omega, by show _ ≤ 6 * 0; omega⟩ rfl ?_
  refine V_icmp_eq hC 200 dL_isTold_193 (by decide) (fun c12 => ?_) (fun c12 => ?_)
  · have h := ite_t c12 h
    refine V_widen (k := u + 0) (n := 6 * (u + 0)) (by omega) (by omega) ?_
    exact b_L_isTold_200 hC hr hlk hX hlt hk9 hv9 (by omega) h
  · have h := ite_f c12 h
    refine V_iconst hC (1 : Int32) dL_isTold_196 (by decide) ?_
    refine V_goto hC 201 dL_isTold_197 (by decide) ?_
    refine V_widen (k := u + 0) (n := 6 * (u + 0)) (by omega) (by omega) ?_
    exact b_L_isTold_201 hC hr hlk hX hlt hk9 hv9 (by omega) h
set_option maxRecDepth 100000 in
set_option maxHeartbeats 8000000 in
theorem b_L_isTold_130 {u : Nat} {v9 : Nat} {v42 : Nat} {rv : Int32} {Mf : Mem} {k9 : Int32 → Int32 → Mem → Option (Int32 × Mem)} {k42 : Int32 → Int32 → Int32 → Mem → Option (Int32 × Mem)} {x1 : Int32} {x2 : Int32} {x3 : Int32} {x4 : Int32} {x5 : Int32} {x7 : Int32} {z0 : Int32} {M : Mem} (hC : Cx p s m args c cL_isTold RL 9 G) (hr : meth.sig.returnType = some .boolean) (hlk : meth.locks = false) (hX : XF G s) (hlt : l.stackTraces = false) (hk9 : ∀ (u : Nat) (x1 : Int32) (x3 : Int32) (M : Mem), u + v9 ≤ 0 → k9 x1 x3 M = some (rv, Mf) → V p l e (rmc 11 0) s m args below meth c 9 G (u) (6 * (u)) (MQ below (gQ G (some (.int rv)) Mf) args s 0 (6 * 0) (gA G)) 9 [(0, .ref (adr G 6 0)), (1, .int x1), (2, .int x2), (3, .int x3)] [] M) (hk42 : ∀ (u : Nat) (x1 : Int32) (x6 : Int32) (x7 : Int32) (M : Mem), u + v42 ≤ 0 → k42 x1 x6 x7 M = some (rv, Mf) → V p l e (rmc 11 0) s m args below meth c 9 G (u) (6 * (u)) (MQ below (gQ G (some (.int rv)) Mf) args s 0 (6 * 0) (gA G)) 42 [(0, .ref (adr G 6 0)), (1, .int x1), (2, .int x2), (3, .int x3), (4, .int x4), (5, .int x5), (6, .int x6), (7, .int x7)] [] M) (hv9 : 0 ≤ v9) (hv42 : 0 + v9 ≤ v42) (hu : u + (0 + v42) ≤ 0) (h : B_L_isTold_130 k9 k42 x1 x2 x3 x4 x5 x7 z0 M = some (rv, Mf)) : V p l e (rmc 11 0) s m args below meth c 9 G (u) (6 * (u)) (MQ below (gQ G (some (.int rv)) Mf) args s 0 (6 * 0) (gA G)) 130 [(0, .ref (adr G 6 0)), (1, .int x1), (2, .int x2), (3, .int x3), (4, .int x4), (5, .int x5), (7, .int x7)] [.int z0] M := by
  refine V_istore hC ([(6, .int z0), (0, .ref (adr G 6 0)), (1, .int x1), (2, .int x2), (3, .int x3), (4, .int x4), (5, .int x5), (7, .int x7)]) dL_isTold_130 (by decide) rfl ?_
  refine V_iinc hC (x7 + 1) ([(7, .int (x7 + 1)), (6, .int z0), (0, .ref (adr G 6 0)), (1, .int x1), (2, .int x2), (3, .int x3), (4, .int x4), (5, .int x5)]) dL_isTold_132 7 rfl rfl (by decide) rfl ?_
  refine V_goto hC 42 dL_isTold_135 (by decide) ?_
  refine V_sub [2, 3, 4, 5, 6, 7, 1, 0] rfl ?_
  refine V_widen (k := u + 0) (n := 6 * (u + 0)) (by omega) (by omega) ?_
  exact hk42 _ _ _ _ _ (by omega) h
set_option maxRecDepth 100000 in
set_option maxHeartbeats 8000000 in
theorem b_L_isTold_129 {u : Nat} {v9 : Nat} {v42 : Nat} {rv : Int32} {Mf : Mem} {k9 : Int32 → Int32 → Mem → Option (Int32 × Mem)} {k42 : Int32 → Int32 → Int32 → Mem → Option (Int32 × Mem)} {x1 : Int32} {x2 : Int32} {x3 : Int32} {x4 : Int32} {x5 : Int32} {x7 : Int32} {M : Mem} (hC : Cx p s m args c cL_isTold RL 9 G) (hr : meth.sig.returnType = some .boolean) (hlk : meth.locks = false) (hX : XF G s) (hlt : l.stackTraces = false) (hk9 : ∀ (u : Nat) (x1 : Int32) (x3 : Int32) (M : Mem), u + v9 ≤ 0 → k9 x1 x3 M = some (rv, Mf) → V p l e (rmc 11 0) s m args below meth c 9 G (u) (6 * (u)) (MQ below (gQ G (some (.int rv)) Mf) args s 0 (6 * 0) (gA G)) 9 [(0, .ref (adr G 6 0)), (1, .int x1), (2, .int x2), (3, .int x3)] [] M) (hk42 : ∀ (u : Nat) (x1 : Int32) (x6 : Int32) (x7 : Int32) (M : Mem), u + v42 ≤ 0 → k42 x1 x6 x7 M = some (rv, Mf) → V p l e (rmc 11 0) s m args below meth c 9 G (u) (6 * (u)) (MQ below (gQ G (some (.int rv)) Mf) args s 0 (6 * 0) (gA G)) 42 [(0, .ref (adr G 6 0)), (1, .int x1), (2, .int x2), (3, .int x3), (4, .int x4), (5, .int x5), (6, .int x6), (7, .int x7)] [] M) (hv9 : 0 ≤ v9) (hv42 : 0 + v9 ≤ v42) (hu : u + (0 + v42) ≤ 0) (h : B_L_isTold_129 k9 k42 x1 x2 x3 x4 x5 x7 M = some (rv, Mf)) : V p l e (rmc 11 0) s m args below meth c 9 G (u) (6 * (u)) (MQ below (gQ G (some (.int rv)) Mf) args s 0 (6 * 0) (gA G)) 129 [(0, .ref (adr G 6 0)), (1, .int x1), (2, .int x2), (3, .int x3), (4, .int x4), (5, .int x5), (7, .int x7)] [] M := by
  refine V_iconst hC (0 : Int32) dL_isTold_129 (by decide) ?_
  refine V_widen (k := u + 0) (n := 6 * (u + 0)) (by omega) (by omega) ?_
  exact b_L_isTold_130 hC hr hlk hX hlt hk9 hk42 hv9 hv42 (by omega) h
set_option maxRecDepth 100000 in
set_option maxHeartbeats 8000000 in
theorem b_L_isTold_114 {u : Nat} {v9 : Nat} {v42 : Nat} {rv : Int32} {Mf : Mem} {k9 : Int32 → Int32 → Mem → Option (Int32 × Mem)} {k42 : Int32 → Int32 → Int32 → Mem → Option (Int32 × Mem)} {x2 : Int32} {x3 : Int32} {x4 : Int32} {x5 : Int32} {x6 : Int32} {x7 : Int32} {x8 : Int32} {z0 : Int32} {M : Mem} (hC : Cx p s m args c cL_isTold RL 9 G) (hr : meth.sig.returnType = some .boolean) (hlk : meth.locks = false) (hX : XF G s) (hlt : l.stackTraces = false) (hk9 : ∀ (u : Nat) (x1 : Int32) (x3 : Int32) (M : Mem), u + v9 ≤ 0 → k9 x1 x3 M = some (rv, Mf) → V p l e (rmc 11 0) s m args below meth c 9 G (u) (6 * (u)) (MQ below (gQ G (some (.int rv)) Mf) args s 0 (6 * 0) (gA G)) 9 [(0, .ref (adr G 6 0)), (1, .int x1), (2, .int x2), (3, .int x3)] [] M) (hk42 : ∀ (u : Nat) (x1 : Int32) (x6 : Int32) (x7 : Int32) (M : Mem), u + v42 ≤ 0 → k42 x1 x6 x7 M = some (rv, Mf) → V p l e (rmc 11 0) s m args below meth c 9 G (u) (6 * (u)) (MQ below (gQ G (some (.int rv)) Mf) args s 0 (6 * 0) (gA G)) 42 [(0, .ref (adr G 6 0)), (1, .int x1), (2, .int x2), (3, .int x3), (4, .int x4), (5, .int x5), (6, .int x6), (7, .int x7)] [] M) (hv9 : 0 ≤ v9) (hv42 : 0 + v9 ≤ v42) (hu : u + (0 + v42) ≤ 0) (h : B_L_isTold_114 k9 k42 x2 x3 x4 x5 x6 x7 x8 z0 M = some (rv, Mf)) : V p l e (rmc 11 0) s m args below meth c 9 G (u) (6 * (u)) (MQ below (gQ G (some (.int rv)) Mf) args s 0 (6 * 0) (gA G)) 114 [(0, .ref (adr G 6 0)), (2, .int x2), (3, .int x3), (4, .int x4), (5, .int x5), (6, .int x6), (7, .int x7), (8, .int x8)] [.int z0] M := by
  refine V_istore_n hC ([(1, .int z0), (0, .ref (adr G 6 0)), (2, .int x2), (3, .int x3), (4, .int x4), (5, .int x5), (6, .int x6), (7, .int x7), (8, .int x8)]) dL_isTold_114 rfl (by decide) rfl ?_
  refine V_iload hC dL_isTold_115 6 rfl ?_
  refine V_if_eq hC 129 dL_isTold_117 (by decide) (fun c22 => ?_) (fun c22 => ?_)
  · have h := ite_t c22 h
    refine V_sub [1, 0, 2, 3, 4, 5, 7] rfl ?_
    refine V_widen (k := u + 0) (n := 6 * (u + 0)) (by omega) (by omega) ?_
    exact b_L_isTold_129 hC hr hlk hX hlt hk9 hk42 hv9 hv42 (by omega) h
  · have h := ite_f c22 h
    refine V_iload hC dL_isTold_120 8 rfl ?_
    refine V_if_ne hC 129 dL_isTold_122 (by decide) (fun c23 => ?_) (fun c23 => ?_)
    · have h := ite_f c23 h
      refine V_sub [1, 0, 2, 3, 4, 5, 7] rfl ?_
      refine V_widen (k := u + 0) (n := 6 * (u + 0)) (by omega) (by omega) ?_
      exact b_L_isTold_129 hC hr hlk hX hlt hk9 hk42 hv9 hv42 (by omega) h
    · have h := ite_t c23 h
      refine V_iconst hC (1 : Int32) dL_isTold_125 (by decide) ?_
      refine V_goto hC 130 dL_isTold_126 (by decide) ?_
      refine V_sub [1, 0, 2, 3, 4, 5, 7] rfl ?_
      refine V_widen (k := u + 0) (n := 6 * (u + 0)) (by omega) (by omega) ?_
      exact b_L_isTold_130 hC hr hlk hX hlt hk9 hk42 hv9 hv42 (by omega) h
set_option maxRecDepth 100000 in
set_option maxHeartbeats 8000000 in
theorem b_L_isTold_113 {u : Nat} {v9 : Nat} {v42 : Nat} {rv : Int32} {Mf : Mem} {k9 : Int32 → Int32 → Mem → Option (Int32 × Mem)} {k42 : Int32 → Int32 → Int32 → Mem → Option (Int32 × Mem)} {x2 : Int32} {x3 : Int32} {x4 : Int32} {x5 : Int32} {x6 : Int32} {x7 : Int32} {x8 : Int32} {M : Mem} (hC : Cx p s m args c cL_isTold RL 9 G) (hr : meth.sig.returnType = some .boolean) (hlk : meth.locks = false) (hX : XF G s) (hlt : l.stackTraces = false) (hk9 : ∀ (u : Nat) (x1 : Int32) (x3 : Int32) (M : Mem), u + v9 ≤ 0 → k9 x1 x3 M = some (rv, Mf) → V p l e (rmc 11 0) s m args below meth c 9 G (u) (6 * (u)) (MQ below (gQ G (some (.int rv)) Mf) args s 0 (6 * 0) (gA G)) 9 [(0, .ref (adr G 6 0)), (1, .int x1), (2, .int x2), (3, .int x3)] [] M) (hk42 : ∀ (u : Nat) (x1 : Int32) (x6 : Int32) (x7 : Int32) (M : Mem), u + v42 ≤ 0 → k42 x1 x6 x7 M = some (rv, Mf) → V p l e (rmc 11 0) s m args below meth c 9 G (u) (6 * (u)) (MQ below (gQ G (some (.int rv)) Mf) args s 0 (6 * 0) (gA G)) 42 [(0, .ref (adr G 6 0)), (1, .int x1), (2, .int x2), (3, .int x3), (4, .int x4), (5, .int x5), (6, .int x6), (7, .int x7)] [] M) (hv9 : 0 ≤ v9) (hv42 : 0 + v9 ≤ v42) (hu : u + (0 + v42) ≤ 0) (h : B_L_isTold_113 k9 k42 x2 x3 x4 x5 x6 x7 x8 M = some (rv, Mf)) : V p l e (rmc 11 0) s m args below meth c 9 G (u) (6 * (u)) (MQ below (gQ G (some (.int rv)) Mf) args s 0 (6 * 0) (gA G)) 113 [(0, .ref (adr G 6 0)), (2, .int x2), (3, .int x3), (4, .int x4), (5, .int x5), (6, .int x6), (7, .int x7), (8, .int x8)] [] M := by
  refine V_iconst hC (0 : Int32) dL_isTold_113 (by decide) ?_
  refine V_widen (k := u + 0) (n := 6 * (u + 0)) (by omega) (by omega) ?_
  exact b_L_isTold_114 hC hr hlk hX hlt hk9 hk42 hv9 hv42 (by omega) h
set_option maxRecDepth 100000 in
set_option maxHeartbeats 8000000 in
theorem b_L_isTold_109 {u : Nat} {v9 : Nat} {v42 : Nat} {rv : Int32} {Mf : Mem} {k9 : Int32 → Int32 → Mem → Option (Int32 × Mem)} {k42 : Int32 → Int32 → Int32 → Mem → Option (Int32 × Mem)} {x2 : Int32} {x3 : Int32} {x4 : Int32} {x5 : Int32} {x6 : Int32} {x7 : Int32} {x8 : Int32} {M : Mem} (hC : Cx p s m args c cL_isTold RL 9 G) (hr : meth.sig.returnType = some .boolean) (hlk : meth.locks = false) (hX : XF G s) (hlt : l.stackTraces = false) (hk9 : ∀ (u : Nat) (x1 : Int32) (x3 : Int32) (M : Mem), u + v9 ≤ 0 → k9 x1 x3 M = some (rv, Mf) → V p l e (rmc 11 0) s m args below meth c 9 G (u) (6 * (u)) (MQ below (gQ G (some (.int rv)) Mf) args s 0 (6 * 0) (gA G)) 9 [(0, .ref (adr G 6 0)), (1, .int x1), (2, .int x2), (3, .int x3)] [] M) (hk42 : ∀ (u : Nat) (x1 : Int32) (x6 : Int32) (x7 : Int32) (M : Mem), u + v42 ≤ 0 → k42 x1 x6 x7 M = some (rv, Mf) → V p l e (rmc 11 0) s m args below meth c 9 G (u) (6 * (u)) (MQ below (gQ G (some (.int rv)) Mf) args s 0 (6 * 0) (gA G)) 42 [(0, .ref (adr G 6 0)), (1, .int x1), (2, .int x2), (3, .int x3), (4, .int x4), (5, .int x5), (6, .int x6), (7, .int x7)] [] M) (hv9 : 0 ≤ v9) (hv42 : 0 + v9 ≤ v42) (hu : u + (0 + v42) ≤ 0) (h : B_L_isTold_109 k9 k42 x2 x3 x4 x5 x6 x7 x8 M = some (rv, Mf)) : V p l e (rmc 11 0) s m args below meth c 9 G (u) (6 * (u)) (MQ below (gQ G (some (.int rv)) Mf) args s 0 (6 * 0) (gA G)) 109 [(0, .ref (adr G 6 0)), (2, .int x2), (3, .int x3), (4, .int x4), (5, .int x5), (6, .int x6), (7, .int x7), (8, .int x8)] [] M := by
  refine V_iconst hC (1 : Int32) dL_isTold_109 (by decide) ?_
  refine V_goto hC 114 dL_isTold_110 (by decide) ?_
  refine V_widen (k := u + 0) (n := 6 * (u + 0)) (by omega) (by omega) ?_
  exact b_L_isTold_114 hC hr hlk hX hlt hk9 hk42 hv9 hv42 (by omega) h
set_option maxRecDepth 100000 in
set_option maxHeartbeats 8000000 in
theorem b_L_isTold_77 {u : Nat} {v9 : Nat} {v42 : Nat} {rv : Int32} {Mf : Mem} {k9 : Int32 → Int32 → Mem → Option (Int32 × Mem)} {k42 : Int32 → Int32 → Int32 → Mem → Option (Int32 × Mem)} {x1 : Int32} {x2 : Int32} {x3 : Int32} {x4 : Int32} {x5 : Int32} {x6 : Int32} {x7 : Int32} {z0 : Int32} {M : Mem} (hC : Cx p s m args c cL_isTold RL 9 G) (hr : meth.sig.returnType = some .boolean) (hlk : meth.locks = false) (hX : XF G s) (hlt : l.stackTraces = false) (hk9 : ∀ (u : Nat) (x1 : Int32) (x3 : Int32) (M : Mem), u + v9 ≤ 0 → k9 x1 x3 M = some (rv, Mf) → V p l e (rmc 11 0) s m args below meth c 9 G (u) (6 * (u)) (MQ below (gQ G (some (.int rv)) Mf) args s 0 (6 * 0) (gA G)) 9 [(0, .ref (adr G 6 0)), (1, .int x1), (2, .int x2), (3, .int x3)] [] M) (hk42 : ∀ (u : Nat) (x1 : Int32) (x6 : Int32) (x7 : Int32) (M : Mem), u + v42 ≤ 0 → k42 x1 x6 x7 M = some (rv, Mf) → V p l e (rmc 11 0) s m args below meth c 9 G (u) (6 * (u)) (MQ below (gQ G (some (.int rv)) Mf) args s 0 (6 * 0) (gA G)) 42 [(0, .ref (adr G 6 0)), (1, .int x1), (2, .int x2), (3, .int x3), (4, .int x4), (5, .int x5), (6, .int x6), (7, .int x7)] [] M) (hv9 : 0 ≤ v9) (hv42 : 0 + v9 ≤ v42) (hu : u + (0 + v42) ≤ 0) (h : B_L_isTold_77 k9 k42 x1 x2 x3 x4 x5 x6 x7 z0 M = some (rv, Mf)) : V p l e (rmc 11 0) s m args below meth c 9 G (u) (6 * (u)) (MQ below (gQ G (some (.int rv)) Mf) args s 0 (6 * 0) (gA G)) 77 [(0, .ref (adr G 6 0)), (1, .int x1), (2, .int x2), (3, .int x3), (4, .int x4), (5, .int x5), (6, .int x6), (7, .int x7)] [.int z0] M := by
  refine V_istore hC ([(8, .int z0), (0, .ref (adr G 6 0)), (1, .int x1), (2, .int x2), (3, .int x3), (4, .int x4), (5, .int x5), (6, .int x6), (7, .int x7)]) dL_isTold_77 (by decide) rfl ?_
  refine V_iload_n hC dL_isTold_79 rfl 2 rfl ?_
  refine V_if_eq hC 113 dL_isTold_80 (by decide) (fun c21 => ?_) (fun c21 => ?_)
  · have h := ite_t c21 h
    refine V_sub [1, 3, 4, 5, 6, 7, 8, 0] rfl ?_
    refine V_widen (k := u + 0) (n := 6 * (u + 0)) (by omega) (by omega) ?_
    exact b_L_isTold_113 hC hr hlk hX hlt hk9 hk42 hv9 hv42 (by omega) h
  · have h := ite_f c21 h
    refine V_iload hC dL_isTold_83 7 rfl ?_
    refine V_if_eq hC 109 dL_isTold_85 (by decide) (fun c24 => ?_) (fun c24 => ?_)
    · have h := ite_t c24 h
      refine V_sub [1, 3, 4, 5, 6, 7, 8, 0] rfl ?_
      refine V_widen (k := u + 0) (n := 6 * (u + 0)) (by omega) (by omega) ?_
      exact b_L_isTold_109 hC hr hlk hX hlt hk9 hk42 hv9 hv42 (by omega) h
    · have h := ite_f c24 h
      refine V_iload hC dL_isTold_88 0 rfl ?_
      refine V_if_eq hC 109 dL_isTold_90 (by decide) (fun c25 => ?_) (fun c25 => ?_)
      · have h := ite_t c25 h
        refine V_sub [1, 3, 4, 5, 6, 7, 8, 0] rfl ?_
        refine V_widen (k := u + 0) (n := 6 * (u + 0)) (by omega) (by omega) ?_
        exact b_L_isTold_109 hC hr hlk hX hlt hk9 hk42 hv9 hv42 (by omega) h
      · have h := ite_f c25 h
        refine V_aload_n hC dL_isTold_93 rfl 1 rfl ?_
        refine V_iload hC dL_isTold_94 8 rfl ?_
        refine V_iconst hC (3 : Int32) dL_isTold_96 (by decide) ?_
        obtain ⟨q26, e26, h⟩ := bind_some h
        refine V_cW0 hC hX [.ref (adr G 6 0), .int x7, .int (3 : Int32)] (c0_L_entry (l := l) (rv := q26.1) (Mf := q26.2) hlt hC.2.2.2.2.2.2.2 e26) kx_L_entry gw_1104 gw_1103 ⟨Nat.le_of_ble_eq_true rfl, Nat.le_of_ble_eq_true rfl⟩ rfl (Nat.le_of_ble_eq_true rfl) dL_isTold_97 ⟨by show _ ≤ 0; omega, by show _ ≤ 6 * 0; omega⟩ rfl ?_
        refine V_aload_n hC dL_isTold_100 rfl 1 rfl ?_
        refine V_iload_n hC dL_isTold_101 rfl 4 rfl ?_
        refine V_iconst hC (4 : Int32) dL_isTold_102 (by decide) ?_
        obtain ⟨q27, e27, h⟩ := bind_some h
        refine V_cW0 hC hX [.ref (adr G 6 0), .int x3, .int (4 : Int32)] (c0_L_entry (l := l) (rv := q27.1) (Mf := q27.2) hlt hC.2.2.2.2.2.2.2 e27) kx_L_entry gw_1104 gw_1103 ⟨Nat.le_of_ble_eq_true rfl, Nat.le_of_ble_eq_true rfl⟩ rfl (Nat.le_of_ble_eq_true rfl) dL_isTold_103 ⟨by show _ ≤ 0; omega, by show _ ≤ 6 * 0; omega⟩ rfl ?_
        refine V_icmp_ne hC 113 dL_isTold_106 (by decide) (fun c28 => ?_) (fun c28 => ?_)
        · have h := ite_f c28 h
          refine V_sub [1, 3, 4, 5, 6, 7, 8, 0] rfl ?_
          refine V_widen (k := u + 0) (n := 6 * (u + 0)) (by omega) (by omega) ?_
          exact b_L_isTold_113 hC hr hlk hX hlt hk9 hk42 hv9 hv42 (by omega) h
        · have h := ite_t c28 h
          refine V_sub [1, 3, 4, 5, 6, 7, 8, 0] rfl ?_
          refine V_widen (k := u + 0) (n := 6 * (u + 0)) (by omega) (by omega) ?_
          exact b_L_isTold_109 hC hr hlk hX hlt hk9 hk42 hv9 hv42 (by omega) h
set_option maxRecDepth 100000 in
set_option maxHeartbeats 8000000 in
theorem b_L_isTold_76 {u : Nat} {v9 : Nat} {v42 : Nat} {rv : Int32} {Mf : Mem} {k9 : Int32 → Int32 → Mem → Option (Int32 × Mem)} {k42 : Int32 → Int32 → Int32 → Mem → Option (Int32 × Mem)} {x1 : Int32} {x2 : Int32} {x3 : Int32} {x4 : Int32} {x5 : Int32} {x6 : Int32} {x7 : Int32} {M : Mem} (hC : Cx p s m args c cL_isTold RL 9 G) (hr : meth.sig.returnType = some .boolean) (hlk : meth.locks = false) (hX : XF G s) (hlt : l.stackTraces = false) (hk9 : ∀ (u : Nat) (x1 : Int32) (x3 : Int32) (M : Mem), u + v9 ≤ 0 → k9 x1 x3 M = some (rv, Mf) → V p l e (rmc 11 0) s m args below meth c 9 G (u) (6 * (u)) (MQ below (gQ G (some (.int rv)) Mf) args s 0 (6 * 0) (gA G)) 9 [(0, .ref (adr G 6 0)), (1, .int x1), (2, .int x2), (3, .int x3)] [] M) (hk42 : ∀ (u : Nat) (x1 : Int32) (x6 : Int32) (x7 : Int32) (M : Mem), u + v42 ≤ 0 → k42 x1 x6 x7 M = some (rv, Mf) → V p l e (rmc 11 0) s m args below meth c 9 G (u) (6 * (u)) (MQ below (gQ G (some (.int rv)) Mf) args s 0 (6 * 0) (gA G)) 42 [(0, .ref (adr G 6 0)), (1, .int x1), (2, .int x2), (3, .int x3), (4, .int x4), (5, .int x5), (6, .int x6), (7, .int x7)] [] M) (hv9 : 0 ≤ v9) (hv42 : 0 + v9 ≤ v42) (hu : u + (0 + v42) ≤ 0) (h : B_L_isTold_76 k9 k42 x1 x2 x3 x4 x5 x6 x7 M = some (rv, Mf)) : V p l e (rmc 11 0) s m args below meth c 9 G (u) (6 * (u)) (MQ below (gQ G (some (.int rv)) Mf) args s 0 (6 * 0) (gA G)) 76 [(0, .ref (adr G 6 0)), (1, .int x1), (2, .int x2), (3, .int x3), (4, .int x4), (5, .int x5), (6, .int x6), (7, .int x7)] [] M := by
  refine V_iconst hC (0 : Int32) dL_isTold_76 (by decide) ?_
  refine V_widen (k := u + 0) (n := 6 * (u + 0)) (by omega) (by omega) ?_
  exact b_L_isTold_77 hC hr hlk hX hlt hk9 hk42 hv9 hv42 (by omega) h
set_option maxRecDepth 100000 in
set_option maxHeartbeats 8000000 in
theorem l_L_isTold_42 {v9 : Nat} {k9 : Int32 → Int32 → Mem → Option (Int32 × Mem)} {rv : Int32} {Mf : Mem} {x2 : Int32} {x3 : Int32} {x4 : Int32} {x5 : Int32} (hC : Cx p s m args c cL_isTold RL 9 G) (hr : meth.sig.returnType = some .boolean) (hlk : meth.locks = false) (hX : XF G s) (hlt : l.stackTraces = false) (hk9 : ∀ (u : Nat) (x1 : Int32) (x3 : Int32) (M : Mem), u + v9 ≤ 0 → k9 x1 x3 M = some (rv, Mf) → V p l e (rmc 11 0) s m args below meth c 9 G (u) (6 * (u)) (MQ below (gQ G (some (.int rv)) Mf) args s 0 (6 * 0) (gA G)) 9 [(0, .ref (adr G 6 0)), (1, .int x1), (2, .int x2), (3, .int x3)] [] M) (hv9 : 0 ≤ v9) : ∀ (n : Nat) {u : Nat} {x1 : Int32} {x6 : Int32} {x7 : Int32} {M : Mem} (hu : u + (0 * n + (0 + v9)) ≤ 0) (h : L_L_isTold_42 k9 x2 x3 x4 x5 n x1 x6 x7 M = some (rv, Mf)), V p l e (rmc 11 0) s m args below meth c 9 G (u) (6 * (u)) (MQ below (gQ G (some (.int rv)) Mf) args s 0 (6 * 0) (gA G)) 42 [(0, .ref (adr G 6 0)), (1, .int x1), (2, .int x2), (3, .int x3), (4, .int x4), (5, .int x5), (6, .int x6), (7, .int x7)] [] M := by
  intro n
  induction n with
  | zero => intro u x1 x6 x7 M hu h; cases h
  | succ n ih =>
    intro u x1 x6 x7 M hu h
    rw [Nat.mul_succ] at hu
    obtain ⟨v42, ev42⟩ : ∃ v, v = 0 * n + (0 + v9) := ⟨_, rfl⟩
    have hv42 : 0 + v9 ≤ v42 := by rw [ev42]; exact Nat.le_add_left _ _
    have hk42 : ∀ (u : Nat) (x1 : Int32) (x6 : Int32) (x7 : Int32) (M : Mem), u + v42 ≤ 0 → L_L_isTold_42 k9 x2 x3 x4 x5 n x1 x6 x7 M = some (rv, Mf) → V p l e (rmc 11 0) s m args below meth c 9 G (u) (6 * (u)) (MQ below (gQ G (some (.int rv)) Mf) args s 0 (6 * 0) (gA G)) 42 [(0, .ref (adr G 6 0)), (1, .int x1), (2, .int x2), (3, .int x3), (4, .int x4), (5, .int x5), (6, .int x6), (7, .int x7)] [] M := fun _ _ _ _ _ hw z => ih (by rw [← ev42]; exact hw) z
    have hu : u + 0 + v42 ≤ 0 := bud hu ev42
    clear ih ev42
    refine V_iload hC dL_isTold_42 7 rfl ?_
    refine V_iload_n hC dL_isTold_44 rfl 2 rfl ?_
    refine V_icmp_ge hC 138 dL_isTold_45 (by decide) (fun c7 => ?_) (fun c7 => ?_)
    · have h := ite_t c7 h
      refine V_iload_n hC dL_isTold_138 rfl 1 rfl ?_
      refine V_if_eq hC 200 dL_isTold_139 (by decide) (fun c8 => ?_) (fun c8 => ?_)
      · have h := ite_t c8 h
        refine V_sub [0, 2, 3] rfl ?_
        refine V_widen (k := u + 0) (n := 6 * (u + 0)) (by omega) (by omega) ?_
        exact b_L_isTold_200 hC hr hlk hX hlt hk9 hv9 (by omega) h
      · have h := ite_f c8 h
        refine V_iload hC dL_isTold_142 6 rfl ?_
        refine V_if_eq hC 181 dL_isTold_144 (by decide) (fun c9 => ?_) (fun c9 => ?_)
        · have h := ite_t c9 h
          refine V_sub [0, 2, 3] rfl ?_
          refine V_widen (k := u + 0) (n := 6 * (u + 0)) (by omega) (by omega) ?_
          exact b_L_isTold_181 hC hr hlk hX hlt hk9 hv9 (by omega) h
        · have h := ite_f c9 h
          refine V_aload_n hC dL_isTold_147 rfl 0 rfl ?_
          refine V_iload hC dL_isTold_148 4 rfl ?_
          refine V_iload hC dL_isTold_150 5 rfl ?_
          obtain ⟨q13, e13, h⟩ := bind_some h
          refine V_cW0 hC hX [.ref (adr G 6 0), .int x4, .int x5] (c0_L_line (l := l) (rv := q13.1) (Mf := q13.2) hlt hC.2.2.2.2.2.2.2 e13) kx_L_line gw_993 gw_992 ⟨Nat.le_of_ble_eq_true rfl, Nat.le_of_ble_eq_true rfl⟩ rfl (Nat.le_of_ble_eq_true rfl) dL_isTold_152 ⟨by show _ ≤ 0; omega, by show _ ≤ 6 * 0; omega⟩ rfl ?_
          refine V_aload_n hC dL_isTold_155 rfl 0 rfl ?_
          refine V_iload_n hC dL_isTold_156 rfl 3 rfl ?_
          refine V_iconst hC (4 : Int32) dL_isTold_157 (by decide) ?_
          obtain ⟨q14, e14, h⟩ := bind_some h
          refine V_cW0 hC hX [.ref (adr G 6 0), .int x3, .int (4 : Int32)] (c0_L_entry (l := l) (rv := q14.1) (Mf := q14.2) hlt hC.2.2.2.2.2.2.2 e14) kx_L_entry gw_1104 gw_1103 ⟨Nat.le_of_ble_eq_true rfl, Nat.le_of_ble_eq_true rfl⟩ rfl (Nat.le_of_ble_eq_true rfl) dL_isTold_158 ⟨by show _ ≤ 0; omega, by show _ ≤ 6 * 0; omega⟩ rfl ?_
          refine V_icmp_ne hC 200 dL_isTold_161 (by decide) (fun c15 => ?_) (fun c15 => ?_)
          · have h := ite_f c15 h
            refine V_sub [0, 2, 3] rfl ?_
            refine V_widen (k := u + 0) (n := 6 * (u + 0)) (by omega) (by omega) ?_
            exact b_L_isTold_200 hC hr hlk hX hlt hk9 hv9 (by omega) h
          · have h := ite_t c15 h
            refine V_aload_n hC dL_isTold_164 rfl 0 rfl ?_
            refine V_iload hC dL_isTold_165 4 rfl ?_
            refine V_iload hC dL_isTold_167 5 rfl ?_
            obtain ⟨q16, e16, h⟩ := bind_some h
            refine V_cW0 hC hX [.ref (adr G 6 0), .int x4, .int x5] (c0_L_blame (l := l) (rv := q16.1) (Mf := q16.2) hlt hC.2.2.2.2.2.2.2 e16) kx_L_blame gw_1112 gw_1111 ⟨Nat.le_of_ble_eq_true rfl, Nat.le_of_ble_eq_true rfl⟩ rfl (Nat.le_of_ble_eq_true rfl) dL_isTold_169 ⟨by show _ ≤ 0; omega, by show _ ≤ 6 * 0; omega⟩ rfl ?_
            refine V_aload_n hC dL_isTold_172 rfl 0 rfl ?_
            refine V_iload_n hC dL_isTold_173 rfl 3 rfl ?_
            refine V_iconst hC (5 : Int32) dL_isTold_174 (by decide) ?_
            obtain ⟨q17, e17, h⟩ := bind_some h
            refine V_cW0 hC hX [.ref (adr G 6 0), .int x3, .int (5 : Int32)] (c0_L_entry (l := l) (rv := q17.1) (Mf := q17.2) hlt hC.2.2.2.2.2.2.2 e17) kx_L_entry gw_1104 gw_1103 ⟨Nat.le_of_ble_eq_true rfl, Nat.le_of_ble_eq_true rfl⟩ rfl (Nat.le_of_ble_eq_true rfl) dL_isTold_175 ⟨by show _ ≤ 0; omega, by show _ ≤ 6 * 0; omega⟩ rfl ?_
            refine V_icmp_ne hC 200 dL_isTold_178 (by decide) (fun c18 => ?_) (fun c18 => ?_)
            · have h := ite_f c18 h
              refine V_sub [0, 2, 3] rfl ?_
              refine V_widen (k := u + 0) (n := 6 * (u + 0)) (by omega) (by omega) ?_
              exact b_L_isTold_200 hC hr hlk hX hlt hk9 hv9 (by omega) h
            · have h := ite_t c18 h
              refine V_sub [0, 2, 3] rfl ?_
              refine V_widen (k := u + 0) (n := 6 * (u + 0)) (by omega) (by omega) ?_
              exact b_L_isTold_181 hC hr hlk hX hlt hk9 hv9 (by omega) h
    · have h := ite_f c7 h
      refine V_aload_n hC dL_isTold_48 rfl 0 rfl ?_
      refine V_iload hC dL_isTold_49 7 rfl ?_
      refine V_iconst hC (1 : Int32) dL_isTold_51 (by decide) ?_
      obtain ⟨q19, e19, h⟩ := bind_some h
      refine V_cW0 hC hX [.ref (adr G 6 0), .int x7, .int (1 : Int32)] (c0_L_entry (l := l) (rv := q19.1) (Mf := q19.2) hlt hC.2.2.2.2.2.2.2 e19) kx_L_entry gw_1104 gw_1103 ⟨Nat.le_of_ble_eq_true rfl, Nat.le_of_ble_eq_true rfl⟩ rfl (Nat.le_of_ble_eq_true rfl) dL_isTold_52 ⟨by show _ ≤ 0; omega, by show _ ≤ 6 * 0; omega⟩ rfl ?_
      refine V_iload hC dL_isTold_55 4 rfl ?_
      refine V_icmp_ne hC 76 dL_isTold_57 (by decide) (fun c20 => ?_) (fun c20 => ?_)
      · have h := ite_f c20 h
        refine V_widen (k := u + 0) (n := 6 * (u + 0)) (by omega) (by omega) ?_
        exact b_L_isTold_76 hC hr hlk hX hlt hk9 hk42 hv9 hv42 (by omega) h
      · have h := ite_t c20 h
        refine V_aload_n hC dL_isTold_60 rfl 0 rfl ?_
        refine V_iload hC dL_isTold_61 7 rfl ?_
        refine V_iconst hC (2 : Int32) dL_isTold_63 (by decide) ?_
        obtain ⟨q29, e29, h⟩ := bind_some h
        refine V_cW0 hC hX [.ref (adr G 6 0), .int x7, .int (2 : Int32)] (c0_L_entry (l := l) (rv := q29.1) (Mf := q29.2) hlt hC.2.2.2.2.2.2.2 e29) kx_L_entry gw_1104 gw_1103 ⟨Nat.le_of_ble_eq_true rfl, Nat.le_of_ble_eq_true rfl⟩ rfl (Nat.le_of_ble_eq_true rfl) dL_isTold_64 ⟨by show _ ≤ 0; omega, by show _ ≤ 6 * 0; omega⟩ rfl ?_
        refine V_iload hC dL_isTold_67 5 rfl ?_
        refine V_icmp_ne hC 76 dL_isTold_69 (by decide) (fun c30 => ?_) (fun c30 => ?_)
        · have h := ite_f c30 h
          refine V_widen (k := u + 0) (n := 6 * (u + 0)) (by omega) (by omega) ?_
          exact b_L_isTold_76 hC hr hlk hX hlt hk9 hk42 hv9 hv42 (by omega) h
        · have h := ite_t c30 h
          refine V_iconst hC (1 : Int32) dL_isTold_72 (by decide) ?_
          refine V_goto hC 77 dL_isTold_73 (by decide) ?_
          refine V_widen (k := u + 0) (n := 6 * (u + 0)) (by omega) (by omega) ?_
          exact b_L_isTold_77 hC hr hlk hX hlt hk9 hk42 hv9 hv42 (by omega) h
set_option maxRecDepth 100000 in
set_option maxHeartbeats 8000000 in
theorem l_L_isTold_9 {rv : Int32} {Mf : Mem} {x2 : Int32} (hC : Cx p s m args c cL_isTold RL 9 G) (hr : meth.sig.returnType = some .boolean) (hlk : meth.locks = false) (hX : XF G s) (hlt : l.stackTraces = false) : ∀ (n : Nat) {u : Nat} {x1 : Int32} {x3 : Int32} {M : Mem} (hu : u + (0 * n + (0)) ≤ 0) (h : L_L_isTold_9 x2 n x1 x3 M = some (rv, Mf)), V p l e (rmc 11 0) s m args below meth c 9 G (u) (6 * (u)) (MQ below (gQ G (some (.int rv)) Mf) args s 0 (6 * 0) (gA G)) 9 [(0, .ref (adr G 6 0)), (1, .int x1), (2, .int x2), (3, .int x3)] [] M := by
  intro n
  induction n with
  | zero => intro u x1 x3 M hu h; cases h
  | succ n ih =>
    intro u x1 x3 M hu h
    rw [Nat.mul_succ] at hu
    obtain ⟨v9, ev9⟩ : ∃ v, v = 0 * n + (0) := ⟨_, rfl⟩
    have hv9 : 0 ≤ v9 := by rw [ev9]; exact Nat.le_add_left _ _
    have hk9 : ∀ (u : Nat) (x1 : Int32) (x3 : Int32) (M : Mem), u + v9 ≤ 0 → L_L_isTold_9 x2 n x1 x3 M = some (rv, Mf) → V p l e (rmc 11 0) s m args below meth c 9 G (u) (6 * (u)) (MQ below (gQ G (some (.int rv)) Mf) args s 0 (6 * 0) (gA G)) 9 [(0, .ref (adr G 6 0)), (1, .int x1), (2, .int x2), (3, .int x3)] [] M := fun _ _ _ _ hw z => ih (by rw [← ev9]; exact hw) z
    have hu : u + 0 + v9 ≤ 0 := bud hu ev9
    clear ih ev9
    refine V_iload_n hC dL_isTold_9 rfl 3 rfl ?_
    refine V_iload_n hC dL_isTold_10 rfl 2 rfl ?_
    refine V_icmp_ge hC 208 dL_isTold_11 (by decide) (fun c1 => ?_) (fun c1 => ?_)
    · have h := ite_t c1 h
      refine V_iload_n hC dL_isTold_208 rfl 1 rfl ?_
      obtain ⟨c2, h⟩ := ite_some h
      obtain ⟨rfl, rfl⟩ := Prod.mk.inj (Option.some.inj h)
      exact V_pzret hC hr hlk (by omega) (by omega) (of_isb c2) dL_isTold_209
    · have h := ite_f c1 h
      refine V_iload_n hC dL_isTold_14 rfl 1 rfl ?_
      refine V_if_eq hC 208 dL_isTold_15 (by decide) (fun c3 => ?_) (fun c3 => ?_)
      · have h := ite_t c3 h
        refine V_iload_n hC dL_isTold_208 rfl 1 rfl ?_
        obtain ⟨c4, h⟩ := ite_some h
        obtain ⟨rfl, rfl⟩ := Prod.mk.inj (Option.some.inj h)
        exact V_pzret hC hr hlk (by omega) (by omega) (of_isb c4) dL_isTold_209
      · have h := ite_f c3 h
        refine V_aload_n hC dL_isTold_18 rfl 0 rfl ?_
        refine V_iload_n hC dL_isTold_19 rfl 3 rfl ?_
        refine V_iconst hC (1 : Int32) dL_isTold_20 (by decide) ?_
        obtain ⟨q5, e5, h⟩ := bind_some h
        refine V_cW0 hC hX [.ref (adr G 6 0), .int x3, .int (1 : Int32)] (c0_L_entry (l := l) (rv := q5.1) (Mf := q5.2) hlt hC.2.2.2.2.2.2.2 e5) kx_L_entry gw_1104 gw_1103 ⟨Nat.le_of_ble_eq_true rfl, Nat.le_of_ble_eq_true rfl⟩ rfl (Nat.le_of_ble_eq_true rfl) dL_isTold_21 ⟨by show _ ≤ 0; omega, by show _ ≤ 6 * 0; omega⟩ rfl ?_
        refine V_istore hC ([(4, .int q5.1), (0, .ref (adr G 6 0)), (1, .int x1), (2, .int x2), (3, .int x3)]) dL_isTold_24 (by decide) rfl ?_
        refine V_aload_n hC dL_isTold_26 rfl 1 rfl ?_
        refine V_iload_n hC dL_isTold_27 rfl 4 rfl ?_
        refine V_iconst hC (2 : Int32) dL_isTold_28 (by decide) ?_
        obtain ⟨q6, e6, h⟩ := bind_some h
        refine V_cW0 hC hX [.ref (adr G 6 0), .int x3, .int (2 : Int32)] (c0_L_entry (l := l) (rv := q6.1) (Mf := q6.2) hlt hC.2.2.2.2.2.2.2 e6) kx_L_entry gw_1104 gw_1103 ⟨Nat.le_of_ble_eq_true rfl, Nat.le_of_ble_eq_true rfl⟩ rfl (Nat.le_of_ble_eq_true rfl) dL_isTold_29 ⟨by show _ ≤ 0; omega, by show _ ≤ 6 * 0; omega⟩ rfl ?_
        refine V_istore hC ([(5, .int q6.1), (4, .int q5.1), (0, .ref (adr G 6 0)), (1, .int x1), (2, .int x2), (3, .int x3)]) dL_isTold_32 (by decide) rfl ?_
        refine V_iconst hC (1 : Int32) dL_isTold_34 (by decide) ?_
        refine V_istore hC ([(6, .int (1 : Int32)), (5, .int q6.1), (4, .int q5.1), (0, .ref (adr G 6 0)), (1, .int x1), (2, .int x2), (3, .int x3)]) dL_isTold_35 (by decide) rfl ?_
        refine V_iload_n hC dL_isTold_37 rfl 6 rfl ?_
        refine V_iconst hC (1 : Int32) dL_isTold_38 (by decide) ?_
        refine V_iadd hC dL_isTold_39 ?_
        refine V_istore hC ([(7, .int (x3 + (1 : Int32))), (6, .int (1 : Int32)), (5, .int q6.1), (4, .int q5.1), (0, .ref (adr G 6 0)), (1, .int x1), (2, .int x2), (3, .int x3)]) dL_isTold_40 (by decide) rfl ?_
        refine V_sub [4, 5, 6, 7, 3, 2, 1, 0] rfl ?_
        refine V_widen (k := u + 0) (n := 6 * (u + 0)) (by omega) (by omega) ?_
        exact l_L_isTold_42 hC hr hlk hX hlt hk9 hv9 152 (by omega) h
set_option maxRecDepth 100000 in
set_option maxHeartbeats 8000000 in
theorem c_L_isTold {l : Launch} {G : Geo} {rv : Int32} {Mf : Mem} {M : Mem} (hlt : l.stackTraces = false) (hG : gD G) (h : f_L_isTold M = some (rv, Mf)) : Met l yL_isTold (.code yL_isTold cL_isTold 9 (some .boolean) :: GL) (rmc 11 0) (gPx G [.ref (adr G 6 0)] M) (gQ G (some (.int rv)) Mf) 0 (6 * 0) (gA G) := by
  refine PMet_of (own := RL) (L := [(0, .ref (adr G 6 0))]) hG (by decide +kernel) rfl (Nat.le_of_ble_eq_true rfl) rfl ?_
  intro p e s m args below meth c hC hX hr hlk
  obtain ⟨u, eu⟩ : ∃ u : Nat, u = 0 := ⟨0, rfl⟩
  have hu : u + 0 ≤ 0 := by omega
  refine V_u (u := u) eu ?_
  refine V_iconst hC (1 : Int32) dL_isTold_0 (by decide) ?_
  refine V_istore_n hC ([(1, .int (1 : Int32)), (0, .ref (adr G 6 0))]) dL_isTold_1 rfl (by decide) rfl ?_
  refine V_aload_n hC dL_isTold_2 rfl 1 rfl ?_
  refine V_cVr hC [] (c_X8_entries (l := l) hC.2.2.2.2.2.2.2 rfl) kd_X8_entries kv_X8_entries gw_968 (r_s0_0).o rfl ⟨Nat.le_of_ble_eq_true rfl, Nat.le_of_ble_eq_true rfl⟩ rfl (Nat.le_of_ble_eq_true rfl) dL_isTold_3 ⟨by show _ ≤ 0; omega, by show _ ≤ 6 * 0; omega⟩ rfl ?_
  refine V_istore_n hC ([(2, .int (f_X8_entries M)), (1, .int (1 : Int32)), (0, .ref (adr G 6 0))]) dL_isTold_6 rfl (by decide) rfl ?_
  refine V_iconst hC (0 : Int32) dL_isTold_7 (by decide) ?_
  refine V_istore_n hC ([(3, .int (0 : Int32)), (2, .int (f_X8_entries M)), (1, .int (1 : Int32)), (0, .ref (adr G 6 0))]) dL_isTold_8 rfl (by decide) rfl ?_
  refine V_sub [3, 2, 1, 0] rfl ?_
  refine V_widen (k := u + 0) (n := 6 * (u + 0)) (by omega) (by omega) ?_
  exact l_L_isTold_9 hC hr hlk hX hlt 152 (by omega) h
set_option maxRecDepth 100000 in
set_option maxHeartbeats 8000000 in
theorem b_L_isGranted_242 {u : Nat} {rv : Int32} {Mf : Mem} {x1 : Int64} {x3 : Int32} {M : Mem} (hC : Cx p s m args c cL_isGranted RL 8 G) (hr : meth.sig.returnType = some .boolean) (hlk : meth.locks = false) (hX : XF G s) (hlt : l.stackTraces = false) (hu : u + (451) ≤ 1046) (h : B_L_isGranted_242 x1 x3 M = some (rv, Mf)) : V p l e (rmc 12 1046) s m args below meth c 8 G (u) (6 * (u)) (MQ below (gQ G (some (.int rv)) Mf) args s 1046 (6 * 1046) (gA G)) 242 [(0, .ref (adr G 6 0)), (1, .long x1), (3, .int x3)] [] M := by
  refine V_iload_n hC dL_isGranted_242 rfl 2 rfl ?_
  refine V_if_eq hC 259 dL_isGranted_243 (by decide) (fun c4 => ?_) (fun c4 => ?_)
  · have h := ite_t c4 h
    refine V_iconst hC (0 : Int32) dL_isGranted_259 (by decide) ?_
    obtain ⟨rfl, rfl⟩ := Prod.mk.inj (Option.some.inj h)
    exact V_pzret hC hr hlk (by omega) (by omega) (Or.inl rfl) dL_isGranted_260
  · have h := ite_f c4 h
    refine V_aload_n hC dL_isGranted_246 rfl 0 rfl ?_
    obtain ⟨q5, e5, h⟩ := bind_some h
    refine V_cL (K := 451) hC hX [.ref (adr G 6 0)] (c_L_print (l := l) (rv := q5.1) (Mf := q5.2) hlt hC.2.2.2.2.2.2.2 e5) kd_L_print gw_961 gw_960 ⟨Nat.le_of_ble_eq_true rfl, Nat.le_of_ble_eq_true rfl⟩ rfl (Nat.le_of_ble_eq_true rfl) dL_isGranted_247 ⟨by show _ ≤ 1046; omega, by show _ ≤ 6 * 1046; omega⟩ rfl ?_
    refine V_lload_n hC dL_isGranted_250 rfl 1 rfl ?_
    refine V_lcmp hC dL_isGranted_251 ?_
    refine V_if_ne hC 259 dL_isGranted_252 (by decide) (fun c6 => ?_) (fun c6 => ?_)
    · have h := ite_f c6 h
      refine V_iconst hC (0 : Int32) dL_isGranted_259 (by decide) ?_
      obtain ⟨rfl, rfl⟩ := Prod.mk.inj (Option.some.inj h)
      exact V_pzret hC hr hlk (by omega) (by omega) (Or.inl rfl) dL_isGranted_260
    · have h := ite_t c6 h
      refine V_iconst hC (1 : Int32) dL_isGranted_255 (by decide) ?_
      refine V_goto hC 260 dL_isGranted_256 (by decide) ?_
      obtain ⟨rfl, rfl⟩ := Prod.mk.inj (Option.some.inj h)
      exact V_pzret hC hr hlk (by omega) (by omega) (Or.inr rfl) dL_isGranted_260
set_option maxRecDepth 100000 in
set_option maxHeartbeats 8000000 in
theorem b_L_isGranted_236 {u : Nat} {v166 : Nat} {rv : Int32} {Mf : Mem} {k166 : Int32 → Int32 → Mem → Option (Int32 × Mem)} {x1 : Int64} {x3 : Int32} {x4 : Int32} {M : Mem} (hC : Cx p s m args c cL_isGranted RL 8 G) (hr : meth.sig.returnType = some .boolean) (hlk : meth.locks = false) (hX : XF G s) (hlt : l.stackTraces = false) (hk166 : ∀ (u : Nat) (x3 : Int32) (x4 : Int32) (M : Mem), u + v166 ≤ 1046 → k166 x3 x4 M = some (rv, Mf) → V p l e (rmc 12 1046) s m args below meth c 8 G (u) (6 * (u)) (MQ below (gQ G (some (.int rv)) Mf) args s 1046 (6 * 1046) (gA G)) 166 [(0, .ref (adr G 6 0)), (1, .long x1), (3, .int x3), (4, .int x4)] [] M) (hv166 : 451 ≤ v166) (hu : u + (0 + v166) ≤ 1046) (h : B_L_isGranted_236 k166 x1 x3 x4 M = some (rv, Mf)) : V p l e (rmc 12 1046) s m args below meth c 8 G (u) (6 * (u)) (MQ below (gQ G (some (.int rv)) Mf) args s 1046 (6 * 1046) (gA G)) 236 [(0, .ref (adr G 6 0)), (1, .long x1), (3, .int x3), (4, .int x4)] [] M := by
  refine V_iinc hC (x4 + 1) ([(4, .int (x4 + 1)), (0, .ref (adr G 6 0)), (1, .long x1), (3, .int x3)]) dL_isGranted_236 3 rfl rfl (by decide) rfl ?_
  refine V_goto hC 166 dL_isGranted_239 (by decide) ?_
  refine V_sub [1, 2, 3, 0] rfl ?_
  refine V_widen (k := u + 0) (n := 6 * (u + 0)) (by omega) (by omega) ?_
  exact hk166 _ _ _ _ (by omega) h
set_option maxRecDepth 100000 in
set_option maxHeartbeats 8000000 in
theorem b_L_isGranted_235 {u : Nat} {v166 : Nat} {rv : Int32} {Mf : Mem} {k166 : Int32 → Int32 → Mem → Option (Int32 × Mem)} {x1 : Int64} {x4 : Int32} {z0 : Int32} {M : Mem} (hC : Cx p s m args c cL_isGranted RL 8 G) (hr : meth.sig.returnType = some .boolean) (hlk : meth.locks = false) (hX : XF G s) (hlt : l.stackTraces = false) (hk166 : ∀ (u : Nat) (x3 : Int32) (x4 : Int32) (M : Mem), u + v166 ≤ 1046 → k166 x3 x4 M = some (rv, Mf) → V p l e (rmc 12 1046) s m args below meth c 8 G (u) (6 * (u)) (MQ below (gQ G (some (.int rv)) Mf) args s 1046 (6 * 1046) (gA G)) 166 [(0, .ref (adr G 6 0)), (1, .long x1), (3, .int x3), (4, .int x4)] [] M) (hv166 : 451 ≤ v166) (hu : u + (0 + v166) ≤ 1046) (h : B_L_isGranted_235 k166 x1 x4 z0 M = some (rv, Mf)) : V p l e (rmc 12 1046) s m args below meth c 8 G (u) (6 * (u)) (MQ below (gQ G (some (.int rv)) Mf) args s 1046 (6 * 1046) (gA G)) 235 [(0, .ref (adr G 6 0)), (1, .long x1), (4, .int x4)] [.int z0] M := by
  refine V_istore_n hC ([(3, .int z0), (0, .ref (adr G 6 0)), (1, .long x1), (4, .int x4)]) dL_isGranted_235 rfl (by decide) rfl ?_
  refine V_sub [1, 2, 0, 3] rfl ?_
  refine V_widen (k := u + 0) (n := 6 * (u + 0)) (by omega) (by omega) ?_
  exact b_L_isGranted_236 hC hr hlk hX hlt hk166 hv166 (by omega) h
set_option maxRecDepth 100000 in
set_option maxHeartbeats 8000000 in
theorem b_L_isGranted_234 {u : Nat} {v166 : Nat} {rv : Int32} {Mf : Mem} {k166 : Int32 → Int32 → Mem → Option (Int32 × Mem)} {x1 : Int64} {x4 : Int32} {M : Mem} (hC : Cx p s m args c cL_isGranted RL 8 G) (hr : meth.sig.returnType = some .boolean) (hlk : meth.locks = false) (hX : XF G s) (hlt : l.stackTraces = false) (hk166 : ∀ (u : Nat) (x3 : Int32) (x4 : Int32) (M : Mem), u + v166 ≤ 1046 → k166 x3 x4 M = some (rv, Mf) → V p l e (rmc 12 1046) s m args below meth c 8 G (u) (6 * (u)) (MQ below (gQ G (some (.int rv)) Mf) args s 1046 (6 * 1046) (gA G)) 166 [(0, .ref (adr G 6 0)), (1, .long x1), (3, .int x3), (4, .int x4)] [] M) (hv166 : 451 ≤ v166) (hu : u + (0 + v166) ≤ 1046) (h : B_L_isGranted_234 k166 x1 x4 M = some (rv, Mf)) : V p l e (rmc 12 1046) s m args below meth c 8 G (u) (6 * (u)) (MQ below (gQ G (some (.int rv)) Mf) args s 1046 (6 * 1046) (gA G)) 234 [(0, .ref (adr G 6 0)), (1, .long x1), (4, .int x4)] [] M := by
  refine V_iconst hC (0 : Int32) dL_isGranted_234 (by decide) ?_
  refine V_widen (k := u + 0) (n := 6 * (u + 0)) (by omega) (by omega) ?_
  exact b_L_isGranted_235 hC hr hlk hX hlt hk166 hv166 (by omega) h
set_option maxRecDepth 100000 in
set_option maxHeartbeats 8000000 in
theorem l_L_isGranted_166 {rv : Int32} {Mf : Mem} {x1 : Int64} (hC : Cx p s m args c cL_isGranted RL 8 G) (hr : meth.sig.returnType = some .boolean) (hlk : meth.locks = false) (hX : XF G s) (hlt : l.stackTraces = false) : ∀ (n : Nat) {u : Nat} {x3 : Int32} {x4 : Int32} {M : Mem} (hu : u + (4 * n + (451)) ≤ 1046) (h : L_L_isGranted_166 x1 n x3 x4 M = some (rv, Mf)), V p l e (rmc 12 1046) s m args below meth c 8 G (u) (6 * (u)) (MQ below (gQ G (some (.int rv)) Mf) args s 1046 (6 * 1046) (gA G)) 166 [(0, .ref (adr G 6 0)), (1, .long x1), (3, .int x3), (4, .int x4)] [] M := by
  intro n
  induction n with
  | zero => intro u x3 x4 M hu h; cases h
  | succ n ih =>
    intro u x3 x4 M hu h
    rw [Nat.mul_succ] at hu
    obtain ⟨v166, ev166⟩ : ∃ v, v = 4 * n + (451) := ⟨_, rfl⟩
    have hv166 : 451 ≤ v166 := by rw [ev166]; exact Nat.le_add_left _ _
    have hk166 : ∀ (u : Nat) (x3 : Int32) (x4 : Int32) (M : Mem), u + v166 ≤ 1046 → L_L_isGranted_166 x1 n x3 x4 M = some (rv, Mf) → V p l e (rmc 12 1046) s m args below meth c 8 G (u) (6 * (u)) (MQ below (gQ G (some (.int rv)) Mf) args s 1046 (6 * 1046) (gA G)) 166 [(0, .ref (adr G 6 0)), (1, .long x1), (3, .int x3), (4, .int x4)] [] M := fun _ _ _ _ hw z => ih (by rw [← ev166]; exact hw) z
    have hu : u + 4 + v166 ≤ 1046 := bud hu ev166
    clear ih ev166
    refine V_iload hC dL_isGranted_166 3 rfl ?_
    refine V_bipush hC (10 : Int32) dL_isGranted_168 (by decide) ?_
    refine V_icmp_ge hC 242 dL_isGranted_170 (by decide) (fun c3 => ?_) (fun c3 => ?_)
    · have h := ite_t c3 h
      refine V_sub [0, 1, 2] rfl ?_
      refine V_widen (k := u + 0) (n := 6 * (u + 0)) (by omega) (by omega) ?_
      exact b_L_isGranted_242 hC hr hlk hX hlt (by omega) h
    · have h := ite_f c3 h
      refine V_iload_n hC dL_isGranted_173 rfl 2 rfl ?_
      refine V_if_eq hC 242 dL_isGranted_174 (by decide) (fun c7 => ?_) (fun c7 => ?_)
      · have h := ite_t c7 h
        refine V_sub [0, 1, 2] rfl ?_
        refine V_widen (k := u + 0) (n := 6 * (u + 0)) (by omega) (by omega) ?_
        exact b_L_isGranted_242 hC hr hlk hX hlt (by omega) h
      · have h := ite_f c7 h
        refine V_aload_n hC dL_isGranted_177 rfl 0 rfl ?_
        refine V_iload hC dL_isGranted_178 3 rfl ?_
        obtain ⟨q8, e8, h⟩ := bind_some h
        refine V_cW hC hX [.ref (adr G 6 0), .int x4] (c_L_ifBroken (l := l) (rv := q8.1) (Mf := q8.2) hlt hC.2.2.2.2.2.2.2 e8) kx_L_ifBroken gw_1086 gw_1085 ⟨Nat.le_of_ble_eq_true rfl, Nat.le_of_ble_eq_true rfl⟩ rfl (Nat.le_of_ble_eq_true rfl) dL_isGranted_180 ⟨by show _ ≤ 1046; omega, by show _ ≤ 6 * 1046; omega⟩ rfl ?_
        refine V_istore hC ([(5, .int q8.1), (0, .ref (adr G 6 0)), (1, .long x1), (3, .int x3), (4, .int x4)]) dL_isGranted_183 (by decide) rfl ?_
        refine V_aload_n hC dL_isGranted_185 rfl 1 rfl ?_
        refine V_iload hC dL_isGranted_186 4 rfl ?_
        refine V_iconst hC (3 : Int32) dL_isGranted_188 (by decide) ?_
        obtain ⟨q9, e9, h⟩ := bind_some h
        refine V_cW hC hX [.ref (adr G 6 0), .int x4, .int (3 : Int32)] (c_L_checkOut (l := l) (rv := q9.1) (Mf := q9.2) hlt hC.2.2.2.2.2.2.2 e9) kx_L_checkOut gw_1014 gw_1013 ⟨Nat.le_of_ble_eq_true rfl, Nat.le_of_ble_eq_true rfl⟩ rfl (Nat.le_of_ble_eq_true rfl) dL_isGranted_189 ⟨by show _ ≤ 1046; omega, by show _ ≤ 6 * 1046; omega⟩ rfl ?_
        refine V_iconst hC (1 : Int32) dL_isGranted_192 (by decide) ?_
        refine V_icmp_ne hC 236 dL_isGranted_193 (by decide) (fun c10 => ?_) (fun c10 => ?_)
        · have h := ite_f c10 h
          refine V_sub [1, 2, 3, 4] rfl ?_
          refine V_widen (k := u + 2) (n := 6 * (u + 2)) (by omega) (by omega) ?_
          exact b_L_isGranted_236 hC hr hlk hX hlt hk166 hv166 (by omega) h
        · have h := ite_t c10 h
          refine V_aload_n hC dL_isGranted_196 rfl 1 rfl ?_
          refine V_cVr hC [] (c_X8_waiting (l := l) hC.2.2.2.2.2.2.2 rfl) kd_X8_waiting kv_X8_waiting gw_972 (r_s0_0).o rfl ⟨Nat.le_of_ble_eq_true rfl, Nat.le_of_ble_eq_true rfl⟩ rfl (Nat.le_of_ble_eq_true rfl) dL_isGranted_197 ⟨by show _ ≤ 1046; omega, by show _ ≤ 6 * 1046; omega⟩ rfl ?_
          refine V_istore hC ([(6, .int (f_X8_waiting q9.2)), (5, .int q8.1), (0, .ref (adr G 6 0)), (1, .long x1), (3, .int x3), (4, .int x4)]) dL_isGranted_200 (by decide) rfl ?_
          refine V_aload_n hC dL_isGranted_202 rfl 2 rfl ?_
          refine V_iload hC dL_isGranted_203 5 rfl ?_
          obtain ⟨q11, e11, h⟩ := bind_some h
          refine V_cW hC hX [.ref (adr G 6 0), .int x4] (c_L_breakUp (l := l) (rv := q11.1) (Mf := q11.2) hlt hC.2.2.2.2.2.2.2 e11) kx_L_breakUp gw_760 gw_759 ⟨Nat.le_of_ble_eq_true rfl, Nat.le_of_ble_eq_true rfl⟩ rfl (Nat.le_of_ble_eq_true rfl) dL_isGranted_205 ⟨by show _ ≤ 1046; omega, by show _ ≤ 6 * 1046; omega⟩ rfl ?_
          refine V_if_lt hC 234 dL_isGranted_208 (by decide) (fun c12 => ?_) (fun c12 => ?_)
          · have h := ite_t c12 h
            refine V_sub [2, 3, 5] rfl ?_
            refine V_widen (k := u + 3) (n := 6 * (u + 3)) (by omega) (by omega) ?_
            exact b_L_isGranted_234 hC hr hlk hX hlt hk166 hv166 (by omega) h
          · have h := ite_f c12 h
            refine V_aload_n hC dL_isGranted_211 rfl 2 rfl ?_
            refine V_cVr hC [] (c_X8_waiting (l := l) hC.2.2.2.2.2.2.2 rfl) kd_X8_waiting kv_X8_waiting gw_972 (r_s0_0).o rfl ⟨Nat.le_of_ble_eq_true rfl, Nat.le_of_ble_eq_true rfl⟩ rfl (Nat.le_of_ble_eq_true rfl) dL_isGranted_212 ⟨by show _ ≤ 1046; omega, by show _ ≤ 6 * 1046; omega⟩ rfl ?_
            refine V_iload hC dL_isGranted_215 0 rfl ?_
            refine V_iload hC dL_isGranted_217 1 rfl ?_
            refine V_isub hC dL_isGranted_219 ?_
            refine V_icmp_ne hC 234 dL_isGranted_220 (by decide) (fun c13 => ?_) (fun c13 => ?_)
            · have h := ite_f c13 h
              refine V_sub [2, 3, 5] rfl ?_
              refine V_widen (k := u + 3) (n := 6 * (u + 3)) (by omega) (by omega) ?_
              exact b_L_isGranted_234 hC hr hlk hX hlt hk166 hv166 (by omega) h
            · have h := ite_t c13 h
              refine V_aload_n hC dL_isGranted_223 rfl 2 rfl ?_
              obtain ⟨q14, e14, h⟩ := bind_some h
              refine V_cW hC hX [.ref (adr G 6 0)] (c_L_undo (l := l) (rv := q14.1) (Mf := q14.2) hlt hC.2.2.2.2.2.2.2 e14) kx_L_undo gw_947 gw_946 ⟨Nat.le_of_ble_eq_true rfl, Nat.le_of_ble_eq_true rfl⟩ rfl (Nat.le_of_ble_eq_true rfl) dL_isGranted_224 ⟨by show _ ≤ 1046; omega, by show _ ≤ 6 * 1046; omega⟩ rfl ?_
              refine V_if_lt hC 234 dL_isGranted_227 (by decide) (fun c15 => ?_) (fun c15 => ?_)
              · have h := ite_t c15 h
                refine V_sub [2, 3, 5] rfl ?_
                refine V_widen (k := u + 4) (n := 6 * (u + 4)) (by omega) (by omega) ?_
                exact b_L_isGranted_234 hC hr hlk hX hlt hk166 hv166 (by omega) h
              · have h := ite_f c15 h
                refine V_iconst hC (1 : Int32) dL_isGranted_230 (by decide) ?_
                refine V_goto hC 235 dL_isGranted_231 (by decide) ?_
                refine V_sub [2, 3, 5] rfl ?_
                refine V_widen (k := u + 4) (n := 6 * (u + 4)) (by omega) (by omega) ?_
                exact b_L_isGranted_235 hC hr hlk hX hlt hk166 hv166 (by omega) h
set_option maxRecDepth 100000 in
set_option maxHeartbeats 8000000 in
theorem b_L_isGranted_163 {u : Nat} {rv : Int32} {Mf : Mem} {x1 : Int64} {x3 : Int32} {M : Mem} (hC : Cx p s m args c cL_isGranted RL 8 G) (hr : meth.sig.returnType = some .boolean) (hlk : meth.locks = false) (hX : XF G s) (hlt : l.stackTraces = false) (hu : u + (495) ≤ 1046) (h : B_L_isGranted_163 x1 x3 M = some (rv, Mf)) : V p l e (rmc 12 1046) s m args below meth c 8 G (u) (6 * (u)) (MQ below (gQ G (some (.int rv)) Mf) args s 1046 (6 * 1046) (gA G)) 163 [(0, .ref (adr G 6 0)), (1, .long x1), (3, .int x3)] [] M := by
  refine V_iconst hC (0 : Int32) dL_isGranted_163 (by decide) ?_
  refine V_istore hC ([(4, .int (0 : Int32)), (0, .ref (adr G 6 0)), (1, .long x1), (3, .int x3)]) dL_isGranted_164 (by decide) rfl ?_
  refine V_sub [1, 2, 3, 0] rfl ?_
  refine V_widen (k := u + 0) (n := 6 * (u + 0)) (by omega) (by omega) ?_
  exact l_L_isGranted_166 hC hr hlk hX hlt 11 (by omega) h
set_option maxRecDepth 100000 in
set_option maxHeartbeats 8000000 in
theorem b_L_isGranted_157 {u : Nat} {v10 : Nat} {rv : Int32} {Mf : Mem} {k10 : Int32 → Int32 → Mem → Option (Int32 × Mem)} {x1 : Int64} {x3 : Int32} {x4 : Int32} {M : Mem} (hC : Cx p s m args c cL_isGranted RL 8 G) (hr : meth.sig.returnType = some .boolean) (hlk : meth.locks = false) (hX : XF G s) (hlt : l.stackTraces = false) (hk10 : ∀ (u : Nat) (x3 : Int32) (x4 : Int32) (M : Mem), u + v10 ≤ 1046 → k10 x3 x4 M = some (rv, Mf) → V p l e (rmc 12 1046) s m args below meth c 8 G (u) (6 * (u)) (MQ below (gQ G (some (.int rv)) Mf) args s 1046 (6 * 1046) (gA G)) 10 [(0, .ref (adr G 6 0)), (1, .long x1), (3, .int x3), (4, .int x4)] [] M) (hv10 : 495 ≤ v10) (hu : u + (0 + v10) ≤ 1046) (h : B_L_isGranted_157 k10 x1 x3 x4 M = some (rv, Mf)) : V p l e (rmc 12 1046) s m args below meth c 8 G (u) (6 * (u)) (MQ below (gQ G (some (.int rv)) Mf) args s 1046 (6 * 1046) (gA G)) 157 [(0, .ref (adr G 6 0)), (1, .long x1), (3, .int x3), (4, .int x4)] [] M := by
  refine V_iinc hC (x4 + 1) ([(4, .int (x4 + 1)), (0, .ref (adr G 6 0)), (1, .long x1), (3, .int x3)]) dL_isGranted_157 3 rfl rfl (by decide) rfl ?_
  refine V_goto hC 10 dL_isGranted_160 (by decide) ?_
  refine V_sub [1, 2, 3, 0] rfl ?_
  refine V_widen (k := u + 0) (n := 6 * (u + 0)) (by omega) (by omega) ?_
  exact hk10 _ _ _ _ (by omega) h
set_option maxRecDepth 100000 in
set_option maxHeartbeats 8000000 in
theorem b_L_isGranted_156 {u : Nat} {v10 : Nat} {rv : Int32} {Mf : Mem} {k10 : Int32 → Int32 → Mem → Option (Int32 × Mem)} {x1 : Int64} {x4 : Int32} {z0 : Int32} {M : Mem} (hC : Cx p s m args c cL_isGranted RL 8 G) (hr : meth.sig.returnType = some .boolean) (hlk : meth.locks = false) (hX : XF G s) (hlt : l.stackTraces = false) (hk10 : ∀ (u : Nat) (x3 : Int32) (x4 : Int32) (M : Mem), u + v10 ≤ 1046 → k10 x3 x4 M = some (rv, Mf) → V p l e (rmc 12 1046) s m args below meth c 8 G (u) (6 * (u)) (MQ below (gQ G (some (.int rv)) Mf) args s 1046 (6 * 1046) (gA G)) 10 [(0, .ref (adr G 6 0)), (1, .long x1), (3, .int x3), (4, .int x4)] [] M) (hv10 : 495 ≤ v10) (hu : u + (0 + v10) ≤ 1046) (h : B_L_isGranted_156 k10 x1 x4 z0 M = some (rv, Mf)) : V p l e (rmc 12 1046) s m args below meth c 8 G (u) (6 * (u)) (MQ below (gQ G (some (.int rv)) Mf) args s 1046 (6 * 1046) (gA G)) 156 [(0, .ref (adr G 6 0)), (1, .long x1), (4, .int x4)] [.int z0] M := by
  refine V_istore_n hC ([(3, .int z0), (0, .ref (adr G 6 0)), (1, .long x1), (4, .int x4)]) dL_isGranted_156 rfl (by decide) rfl ?_
  refine V_sub [1, 2, 0, 3] rfl ?_
  refine V_widen (k := u + 0) (n := 6 * (u + 0)) (by omega) (by omega) ?_
  exact b_L_isGranted_157 hC hr hlk hX hlt hk10 hv10 (by omega) h
set_option maxRecDepth 100000 in
set_option maxHeartbeats 8000000 in
theorem b_L_isGranted_155 {u : Nat} {v10 : Nat} {rv : Int32} {Mf : Mem} {k10 : Int32 → Int32 → Mem → Option (Int32 × Mem)} {x1 : Int64} {x4 : Int32} {M : Mem} (hC : Cx p s m args c cL_isGranted RL 8 G) (hr : meth.sig.returnType = some .boolean) (hlk : meth.locks = false) (hX : XF G s) (hlt : l.stackTraces = false) (hk10 : ∀ (u : Nat) (x3 : Int32) (x4 : Int32) (M : Mem), u + v10 ≤ 1046 → k10 x3 x4 M = some (rv, Mf) → V p l e (rmc 12 1046) s m args below meth c 8 G (u) (6 * (u)) (MQ below (gQ G (some (.int rv)) Mf) args s 1046 (6 * 1046) (gA G)) 10 [(0, .ref (adr G 6 0)), (1, .long x1), (3, .int x3), (4, .int x4)] [] M) (hv10 : 495 ≤ v10) (hu : u + (0 + v10) ≤ 1046) (h : B_L_isGranted_155 k10 x1 x4 M = some (rv, Mf)) : V p l e (rmc 12 1046) s m args below meth c 8 G (u) (6 * (u)) (MQ below (gQ G (some (.int rv)) Mf) args s 1046 (6 * 1046) (gA G)) 155 [(0, .ref (adr G 6 0)), (1, .long x1), (4, .int x4)] [] M := by
  refine V_iconst hC (0 : Int32) dL_isGranted_155 (by decide) ?_
  refine V_widen (k := u + 0) (n := 6 * (u + 0)) (by omega) (by omega) ?_
  exact b_L_isGranted_156 hC hr hlk hX hlt hk10 hv10 (by omega) h
set_option maxRecDepth 100000 in
set_option maxHeartbeats 8000000 in
theorem b_L_isGranted_51 {u : Nat} {v10 : Nat} {rv : Int32} {Mf : Mem} {k10 : Int32 → Int32 → Mem → Option (Int32 × Mem)} {x1 : Int64} {x4 : Int32} {x5 : Int32} {x6 : Int32} {z0 : Int32} {M : Mem} (hC : Cx p s m args c cL_isGranted RL 8 G) (hr : meth.sig.returnType = some .boolean) (hlk : meth.locks = false) (hX : XF G s) (hlt : l.stackTraces = false) (hk10 : ∀ (u : Nat) (x3 : Int32) (x4 : Int32) (M : Mem), u + v10 ≤ 1046 → k10 x3 x4 M = some (rv, Mf) → V p l e (rmc 12 1046) s m args below meth c 8 G (u) (6 * (u)) (MQ below (gQ G (some (.int rv)) Mf) args s 1046 (6 * 1046) (gA G)) 10 [(0, .ref (adr G 6 0)), (1, .long x1), (3, .int x3), (4, .int x4)] [] M) (hv10 : 495 ≤ v10) (hu : u + (7 + v10) ≤ 1046) (h : B_L_isGranted_51 k10 x1 x4 x5 x6 z0 M = some (rv, Mf)) : V p l e (rmc 12 1046) s m args below meth c 8 G (u) (6 * (u)) (MQ below (gQ G (some (.int rv)) Mf) args s 1046 (6 * 1046) (gA G)) 51 [(0, .ref (adr G 6 0)), (1, .long x1), (4, .int x4), (5, .int x5), (6, .int x6)] [.int z0] M := by
  refine V_istore_n hC ([(3, .int z0), (0, .ref (adr G 6 0)), (1, .long x1), (4, .int x4), (5, .int x5), (6, .int x6)]) dL_isGranted_51 rfl (by decide) rfl ?_
  refine V_aload_n hC dL_isGranted_52 rfl 1 rfl ?_
  refine V_iload hC dL_isGranted_53 4 rfl ?_
  obtain ⟨q21, e21, h⟩ := bind_some h
  refine V_cW hC hX [.ref (adr G 6 0), .int x5] (c_L_grantedAt (l := l) (rv := q21.1) (Mf := q21.2) hlt hC.2.2.2.2.2.2.2 e21) kx_L_grantedAt gw_1097 gw_1096 ⟨Nat.le_of_ble_eq_true rfl, Nat.le_of_ble_eq_true rfl⟩ rfl (Nat.le_of_ble_eq_true rfl) dL_isGranted_55 ⟨by show _ ≤ 1046; omega, by show _ ≤ 6 * 1046; omega⟩ rfl ?_
  refine V_istore hC ([(7, .int q21.1), (3, .int z0), (0, .ref (adr G 6 0)), (1, .long x1), (4, .int x4), (5, .int x5), (6, .int x6)]) dL_isGranted_58 (by decide) rfl ?_
  refine V_iload_n hC dL_isGranted_60 rfl 1 rfl ?_
  refine V_if_eq hC 157 dL_isGranted_61 (by decide) (fun c22 => ?_) (fun c22 => ?_)
  · have h := ite_t c22 h
    refine V_sub [2, 3, 1, 4] rfl ?_
    refine V_widen (k := u + 1) (n := 6 * (u + 1)) (by omega) (by omega) ?_
    exact b_L_isGranted_157 hC hr hlk hX hlt hk10 hv10 (by omega) h
  · have h := ite_f c22 h
    refine V_iload hC dL_isGranted_64 0 rfl ?_
    refine V_if_lt hC 157 dL_isGranted_66 (by decide) (fun c23 => ?_) (fun c23 => ?_)
    · have h := ite_t c23 h
      refine V_sub [2, 3, 1, 4] rfl ?_
      refine V_widen (k := u + 1) (n := 6 * (u + 1)) (by omega) (by omega) ?_
      exact b_L_isGranted_157 hC hr hlk hX hlt hk10 hv10 (by omega) h
    · have h := ite_f c23 h
      refine V_iload hC dL_isGranted_69 0 rfl ?_
      refine V_iload hC dL_isGranted_71 6 rfl ?_
      refine V_isub hC dL_isGranted_73 ?_
      refine V_sipush hC (1000 : Int32) dL_isGranted_74 (by decide) ?_
      refine V_icmp_gt hC 157 dL_isGranted_77 (by decide) (fun c24 => ?_) (fun c24 => ?_)
      · have h := ite_t c24 h
        refine V_sub [2, 3, 1, 4] rfl ?_
        refine V_widen (k := u + 1) (n := 6 * (u + 1)) (by omega) (by omega) ?_
        exact b_L_isGranted_157 hC hr hlk hX hlt hk10 hv10 (by omega) h
      · have h := ite_f c24 h
        refine V_iload hC dL_isGranted_80 0 rfl ?_
        refine V_iload hC dL_isGranted_82 6 rfl ?_
        refine V_icmp_le hC 155 dL_isGranted_84 (by decide) (fun c25 => ?_) (fun c25 => ?_)
        · have h := ite_t c25 h
          refine V_sub [2, 3, 4] rfl ?_
          refine V_widen (k := u + 1) (n := 6 * (u + 1)) (by omega) (by omega) ?_
          exact b_L_isGranted_155 hC hr hlk hX hlt hk10 hv10 (by omega) h
        · have h := ite_f c25 h
          refine V_aload_n hC dL_isGranted_87 rfl 2 rfl ?_
          refine V_iload hC dL_isGranted_88 0 rfl ?_
          refine V_iload hC dL_isGranted_90 6 rfl ?_
          refine V_isub hC dL_isGranted_92 ?_
          refine V_iconst hC (1 : Int32) dL_isGranted_93 (by decide) ?_
          refine V_isub hC dL_isGranted_94 ?_
          obtain ⟨q26, e26, h⟩ := bind_some h
          refine V_cW hC hX [.ref (adr G 6 0), .int ((q21.1 - x6) - (1 : Int32))] (c_L_pass (l := l) (rv := q26.1) (Mf := q26.2) hlt hC.2.2.2.2.2.2.2 e26) kx_L_pass gw_879 gw_878 ⟨Nat.le_of_ble_eq_true rfl, Nat.le_of_ble_eq_true rfl⟩ rfl (Nat.le_of_ble_eq_true rfl) dL_isGranted_95 ⟨by show _ ≤ 1046; omega, by show _ ≤ 6 * 1046; omega⟩ rfl ?_
          refine V_iload hC dL_isGranted_98 0 rfl ?_
          refine V_iconst hC (1 : Int32) dL_isGranted_100 (by decide) ?_
          refine V_isub hC dL_isGranted_101 ?_
          refine V_icmp_ne hC 155 dL_isGranted_102 (by decide) (fun c27 => ?_) (fun c27 => ?_)
          · have h := ite_f c27 h
            refine V_sub [2, 3, 4] rfl ?_
            refine V_widen (k := u + 2) (n := 6 * (u + 2)) (by omega) (by omega) ?_
            exact b_L_isGranted_155 hC hr hlk hX hlt hk10 hv10 (by omega) h
          · have h := ite_t c27 h
            refine V_aload_n hC dL_isGranted_105 rfl 2 rfl ?_
            refine V_iload hC dL_isGranted_106 5 rfl ?_
            obtain ⟨q28, e28, h⟩ := bind_some h
            refine V_cW hC hX [.ref (adr G 6 0), .int x5] (c_L_grantedAt (l := l) (rv := q28.1) (Mf := q28.2) hlt hC.2.2.2.2.2.2.2 e28) kx_L_grantedAt gw_1097 gw_1096 ⟨Nat.le_of_ble_eq_true rfl, Nat.le_of_ble_eq_true rfl⟩ rfl (Nat.le_of_ble_eq_true rfl) dL_isGranted_108 ⟨by show _ ≤ 1046; omega, by show _ ≤ 6 * 1046; omega⟩ rfl ?_
            refine V_iload hC dL_isGranted_111 0 rfl ?_
            refine V_icmp_ne hC 155 dL_isGranted_113 (by decide) (fun c29 => ?_) (fun c29 => ?_)
            · have h := ite_f c29 h
              refine V_sub [2, 3, 4] rfl ?_
              refine V_widen (k := u + 3) (n := 6 * (u + 3)) (by omega) (by omega) ?_
              exact b_L_isGranted_155 hC hr hlk hX hlt hk10 hv10 (by omega) h
            · have h := ite_t c29 h
              refine V_aload_n hC dL_isGranted_116 rfl 2 rfl ?_
              refine V_iconst hC (1 : Int32) dL_isGranted_117 (by decide) ?_
              obtain ⟨q30, e30, h⟩ := bind_some h
              refine V_cW hC hX [.ref (adr G 6 0), .int (1 : Int32)] (c_L_pass (l := l) (rv := q30.1) (Mf := q30.2) hlt hC.2.2.2.2.2.2.2 e30) kx_L_pass gw_879 gw_878 ⟨Nat.le_of_ble_eq_true rfl, Nat.le_of_ble_eq_true rfl⟩ rfl (Nat.le_of_ble_eq_true rfl) dL_isGranted_118 ⟨by show _ ≤ 1046; omega, by show _ ≤ 6 * 1046; omega⟩ rfl ?_
              refine V_iload hC dL_isGranted_121 0 rfl ?_
              refine V_icmp_ne hC 155 dL_isGranted_123 (by decide) (fun c31 => ?_) (fun c31 => ?_)
              · have h := ite_f c31 h
                refine V_sub [2, 3, 4] rfl ?_
                refine V_widen (k := u + 4) (n := 6 * (u + 4)) (by omega) (by omega) ?_
                exact b_L_isGranted_155 hC hr hlk hX hlt hk10 hv10 (by omega) h
              · have h := ite_t c31 h
                refine V_aload_n hC dL_isGranted_126 rfl 2 rfl ?_
                refine V_iload hC dL_isGranted_127 5 rfl ?_
                obtain ⟨q32, e32, h⟩ := bind_some h
                refine V_cW hC hX [.ref (adr G 6 0), .int x5] (c_L_grantedAt (l := l) (rv := q32.1) (Mf := q32.2) hlt hC.2.2.2.2.2.2.2 e32) kx_L_grantedAt gw_1097 gw_1096 ⟨Nat.le_of_ble_eq_true rfl, Nat.le_of_ble_eq_true rfl⟩ rfl (Nat.le_of_ble_eq_true rfl) dL_isGranted_129 ⟨by show _ ≤ 1046; omega, by show _ ≤ 6 * 1046; omega⟩ rfl ?_
                refine V_bipush hC ((-52) : Int32) dL_isGranted_132 (by decide) ?_
                refine V_icmp_ne hC 155 dL_isGranted_134 (by decide) (fun c33 => ?_) (fun c33 => ?_)
                · have h := ite_f c33 h
                  refine V_sub [2, 3, 4] rfl ?_
                  refine V_widen (k := u + 5) (n := 6 * (u + 5)) (by omega) (by omega) ?_
                  exact b_L_isGranted_155 hC hr hlk hX hlt hk10 hv10 (by omega) h
                · have h := ite_t c33 h
                  refine V_aload_n hC dL_isGranted_137 rfl 2 rfl ?_
                  obtain ⟨q34, e34, h⟩ := bind_some h
                  refine V_cW hC hX [.ref (adr G 6 0)] (c_L_undo (l := l) (rv := q34.1) (Mf := q34.2) hlt hC.2.2.2.2.2.2.2 e34) kx_L_undo gw_947 gw_946 ⟨Nat.le_of_ble_eq_true rfl, Nat.le_of_ble_eq_true rfl⟩ rfl (Nat.le_of_ble_eq_true rfl) dL_isGranted_138 ⟨by show _ ≤ 1046; omega, by show _ ≤ 6 * 1046; omega⟩ rfl ?_
                  refine V_if_lt hC 155 dL_isGranted_141 (by decide) (fun c35 => ?_) (fun c35 => ?_)
                  · have h := ite_t c35 h
                    refine V_sub [2, 3, 4] rfl ?_
                    refine V_widen (k := u + 6) (n := 6 * (u + 6)) (by omega) (by omega) ?_
                    exact b_L_isGranted_155 hC hr hlk hX hlt hk10 hv10 (by omega) h
                  · have h := ite_f c35 h
                    refine V_aload_n hC dL_isGranted_144 rfl 2 rfl ?_
                    obtain ⟨q36, e36, h⟩ := bind_some h
                    refine V_cW hC hX [.ref (adr G 6 0)] (c_L_undo (l := l) (rv := q36.1) (Mf := q36.2) hlt hC.2.2.2.2.2.2.2 e36) kx_L_undo gw_947 gw_946 ⟨Nat.le_of_ble_eq_true rfl, Nat.le_of_ble_eq_true rfl⟩ rfl (Nat.le_of_ble_eq_true rfl) dL_isGranted_145 ⟨by show _ ≤ 1046; omega, by show _ ≤ 6 * 1046; omega⟩ rfl ?_
                    refine V_if_lt hC 155 dL_isGranted_148 (by decide) (fun c37 => ?_) (fun c37 => ?_)
                    · have h := ite_t c37 h
                      refine V_sub [2, 3, 4] rfl ?_
                      refine V_widen (k := u + 7) (n := 6 * (u + 7)) (by omega) (by omega) ?_
                      exact b_L_isGranted_155 hC hr hlk hX hlt hk10 hv10 (by omega) h
                    · have h := ite_f c37 h
                      refine V_iconst hC (1 : Int32) dL_isGranted_151 (by decide) ?_
                      refine V_goto hC 156 dL_isGranted_152 (by decide) ?_
                      refine V_sub [2, 3, 4] rfl ?_
                      refine V_widen (k := u + 7) (n := 6 * (u + 7)) (by omega) (by omega) ?_
                      exact b_L_isGranted_156 hC hr hlk hX hlt hk10 hv10 (by omega) h
set_option maxRecDepth 100000 in
set_option maxHeartbeats 8000000 in
theorem l_L_isGranted_10 {rv : Int32} {Mf : Mem} {x1 : Int64} (hC : Cx p s m args c cL_isGranted RL 8 G) (hr : meth.sig.returnType = some .boolean) (hlk : meth.locks = false) (hX : XF G s) (hlt : l.stackTraces = false) : ∀ (n : Nat) {u : Nat} {x3 : Int32} {x4 : Int32} {M : Mem} (hu : u + (10 * n + (495)) ≤ 1046) (h : L_L_isGranted_10 x1 n x3 x4 M = some (rv, Mf)), V p l e (rmc 12 1046) s m args below meth c 8 G (u) (6 * (u)) (MQ below (gQ G (some (.int rv)) Mf) args s 1046 (6 * 1046) (gA G)) 10 [(0, .ref (adr G 6 0)), (1, .long x1), (3, .int x3), (4, .int x4)] [] M := by
  intro n
  induction n with
  | zero => intro u x3 x4 M hu h; cases h
  | succ n ih =>
    intro u x3 x4 M hu h
    rw [Nat.mul_succ] at hu
    obtain ⟨v10, ev10⟩ : ∃ v, v = 10 * n + (495) := ⟨_, rfl⟩
    have hv10 : 495 ≤ v10 := by rw [ev10]; exact Nat.le_add_left _ _
    have hk10 : ∀ (u : Nat) (x3 : Int32) (x4 : Int32) (M : Mem), u + v10 ≤ 1046 → L_L_isGranted_10 x1 n x3 x4 M = some (rv, Mf) → V p l e (rmc 12 1046) s m args below meth c 8 G (u) (6 * (u)) (MQ below (gQ G (some (.int rv)) Mf) args s 1046 (6 * 1046) (gA G)) 10 [(0, .ref (adr G 6 0)), (1, .long x1), (3, .int x3), (4, .int x4)] [] M := fun _ _ _ _ hw z => ih (by rw [← ev10]; exact hw) z
    have hu : u + 10 + v10 ≤ 1046 := bud hu ev10
    clear ih ev10
    refine V_iload hC dL_isGranted_10 3 rfl ?_
    refine V_aload_n hC dL_isGranted_12 rfl 0 rfl ?_
    refine V_cVr hC [] (c_X8_waiting (l := l) hC.2.2.2.2.2.2.2 rfl) kd_X8_waiting kv_X8_waiting gw_972 (r_s0_0).o rfl ⟨Nat.le_of_ble_eq_true rfl, Nat.le_of_ble_eq_true rfl⟩ rfl (Nat.le_of_ble_eq_true rfl) dL_isGranted_13 ⟨by show _ ≤ 1046; omega, by show _ ≤ 6 * 1046; omega⟩ rfl ?_
    refine V_icmp_ge hC 163 dL_isGranted_16 (by decide) (fun c2 => ?_) (fun c2 => ?_)
    · have h := ite_t c2 h
      refine V_sub [0, 1, 2] rfl ?_
      refine V_widen (k := u + 0) (n := 6 * (u + 0)) (by omega) (by omega) ?_
      exact b_L_isGranted_163 hC hr hlk hX hlt (by omega) h
    · have h := ite_f c2 h
      refine V_iload_n hC dL_isGranted_19 rfl 2 rfl ?_
      refine V_if_eq hC 163 dL_isGranted_20 (by decide) (fun c16 => ?_) (fun c16 => ?_)
      · have h := ite_t c16 h
        refine V_sub [0, 1, 2] rfl ?_
        refine V_widen (k := u + 0) (n := 6 * (u + 0)) (by omega) (by omega) ?_
        exact b_L_isGranted_163 hC hr hlk hX hlt (by omega) h
      · have h := ite_f c16 h
        refine V_aload_n hC dL_isGranted_23 rfl 0 rfl ?_
        refine V_iload hC dL_isGranted_24 3 rfl ?_
        refine V_iconst hC (0 : Int32) dL_isGranted_26 (by decide) ?_
        obtain ⟨q17, e17, h⟩ := bind_some h
        refine V_cW hC hX [.ref (adr G 6 0), .int x4, .int (0 : Int32)] (c_L_waitingAt (l := l) (rv := q17.1) (Mf := q17.2) hlt hC.2.2.2.2.2.2.2 e17) kx_L_waitingAt gw_1037 gw_1036 ⟨Nat.le_of_ble_eq_true rfl, Nat.le_of_ble_eq_true rfl⟩ rfl (Nat.le_of_ble_eq_true rfl) dL_isGranted_27 ⟨by show _ ≤ 1046; omega, by show _ ≤ 6 * 1046; omega⟩ rfl ?_
        refine V_istore hC ([(5, .int q17.1), (0, .ref (adr G 6 0)), (1, .long x1), (3, .int x3), (4, .int x4)]) dL_isGranted_30 (by decide) rfl ?_
        refine V_aload_n hC dL_isGranted_32 rfl 1 rfl ?_
        refine V_iconst hC (0 : Int32) dL_isGranted_33 (by decide) ?_
        obtain ⟨q18, e18, h⟩ := bind_some h
        refine V_cW hC hX [.ref (adr G 6 0), .int (0 : Int32)] (c_L_pass (l := l) (rv := q18.1) (Mf := q18.2) hlt hC.2.2.2.2.2.2.2 e18) kx_L_pass gw_879 gw_878 ⟨Nat.le_of_ble_eq_true rfl, Nat.le_of_ble_eq_true rfl⟩ rfl (Nat.le_of_ble_eq_true rfl) dL_isGranted_34 ⟨by show _ ≤ 1046; omega, by show _ ≤ 6 * 1046; omega⟩ rfl ?_
        refine V_istore hC ([(6, .int q18.1), (5, .int q17.1), (0, .ref (adr G 6 0)), (1, .long x1), (3, .int x3), (4, .int x4)]) dL_isGranted_37 (by decide) rfl ?_
        refine V_aload_n hC dL_isGranted_39 rfl 2 rfl ?_
        obtain ⟨q19, e19, h⟩ := bind_some h
        refine V_cW hC hX [.ref (adr G 6 0)] (c_L_undo (l := l) (rv := q19.1) (Mf := q19.2) hlt hC.2.2.2.2.2.2.2 e19) kx_L_undo gw_947 gw_946 ⟨Nat.le_of_ble_eq_true rfl, Nat.le_of_ble_eq_true rfl⟩ rfl (Nat.le_of_ble_eq_true rfl) dL_isGranted_40 ⟨by show _ ≤ 1046; omega, by show _ ≤ 6 * 1046; omega⟩ rfl ?_
        refine V_if_lt hC 50 dL_isGranted_43 (by decide) (fun c20 => ?_) (fun c20 => ?_)
        · have h := ite_t c20 h
          refine V_iconst hC (0 : Int32) dL_isGranted_50 (by decide) ?_
          refine V_sub [2, 3, 5, 1, 0] rfl ?_
          refine V_widen (k := u + 3) (n := 6 * (u + 3)) (by omega) (by omega) ?_
          exact b_L_isGranted_51 hC hr hlk hX hlt hk10 hv10 (by omega) h
        · have h := ite_f c20 h
          refine V_iconst hC (1 : Int32) dL_isGranted_46 (by decide) ?_
          refine V_goto hC 51 dL_isGranted_47 (by decide) ?_
          refine V_sub [2, 3, 5, 1, 0] rfl ?_
          refine V_widen (k := u + 3) (n := 6 * (u + 3)) (by omega) (by omega) ?_
          exact b_L_isGranted_51 hC hr hlk hX hlt hk10 hv10 (by omega) h
set_option maxRecDepth 100000 in
set_option maxHeartbeats 8000000 in
theorem c_L_isGranted {l : Launch} {G : Geo} {rv : Int32} {Mf : Mem} {M : Mem} (hlt : l.stackTraces = false) (hG : gD G) (h : f_L_isGranted M = some (rv, Mf)) : Met l yL_isGranted (.code yL_isGranted cL_isGranted 8 (some .boolean) :: GL) (rmc 12 1046) (gPx G [.ref (adr G 6 0)] M) (gQ G (some (.int rv)) Mf) 1046 (6 * 1046) (gA G) := by
  refine PMet_of (own := RL) (L := [(0, .ref (adr G 6 0))]) hG (by decide +kernel) rfl (Nat.le_of_ble_eq_true rfl) rfl ?_
  intro p e s m args below meth c hC hX hr hlk
  obtain ⟨u, eu⟩ : ∃ u : Nat, u = 0 := ⟨0, rfl⟩
  have hu : u + 1046 ≤ 1046 := by omega
  refine V_u (u := u) eu ?_
  refine V_aload_n hC dL_isGranted_0 rfl 0 rfl ?_
  obtain ⟨q1, e1, h⟩ := bind_some h
  refine V_cL (K := 451) hC hX [.ref (adr G 6 0)] (c_L_print (l := l) (rv := q1.1) (Mf := q1.2) hlt hC.2.2.2.2.2.2.2 e1) kd_L_print gw_961 gw_960 ⟨Nat.le_of_ble_eq_true rfl, Nat.le_of_ble_eq_true rfl⟩ rfl (Nat.le_of_ble_eq_true rfl) dL_isGranted_1 ⟨by show _ ≤ 1046; omega, by show _ ≤ 6 * 1046; omega⟩ rfl ?_
  refine V_lstore_n hC ([(1, .long q1.1), (0, .ref (adr G 6 0))]) dL_isGranted_4 rfl (by decide) rfl ?_
  refine V_iconst hC (1 : Int32) dL_isGranted_5 (by decide) ?_
  refine V_istore_n hC ([(3, .int (1 : Int32)), (1, .long q1.1), (0, .ref (adr G 6 0))]) dL_isGranted_6 rfl (by decide) rfl ?_
  refine V_iconst hC (0 : Int32) dL_isGranted_7 (by decide) ?_
  refine V_istore hC ([(4, .int (0 : Int32)), (3, .int (1 : Int32)), (1, .long q1.1), (0, .ref (adr G 6 0))]) dL_isGranted_8 (by decide) rfl ?_
  refine V_sub [3, 2, 1, 0] rfl ?_
  refine V_widen (k := u + 451) (n := 6 * (u + 451)) (by omega) (by omega) ?_
  exact l_L_isGranted_10 hC hr hlk hX hlt 10 (by omega) h
end
