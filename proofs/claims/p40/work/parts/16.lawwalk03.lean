section
variable {p : Program} {l : Launch} {e : Env} {s : State} {m : MethodId} {args : Array Value} {below : List Frame} {meth : Method} {c : Code} {G : Geo}
set_option maxRecDepth 100000 in
set_option maxHeartbeats 8000000 in
theorem b_L_comesBack_265 {u : Nat} {rv : Int32} {Mf : Mem} {x1 : Int32} {x2 : Int64} {x4 : Int32} {x6 : Int32} {x10 : Int32} {x11 : Int32} {M : Mem} (hC : Cx p s m args c cL_comesBack RL 14 G) (hr : meth.sig.returnType = some .boolean) (hlk : meth.locks = false) (hX : XF G s) (hlt : l.stackTraces = false) (hu : u + (454) ≤ 934) (h : B_L_comesBack_265 x1 x2 x4 x6 x10 x11 M = some (rv, Mf)) : V p l e (rmc 12 934) s m args below meth c 14 G (u) (6 * (u)) (MQ below (gQ G (some (.int rv)) Mf) args s 934 (6 * 934) (gA G)) 265 [(0, .ref (adr G 6 0)), (1, .int x1), (2, .long x2), (4, .int x4), (6, .int x6), (10, .int x10), (11, .int x11)] [] M := by
  refine V_iload hC dL_comesBack_265 6 rfl ?_
  refine V_if_eq hC 312 dL_comesBack_267 (by decide) (fun c14 => ?_) (fun c14 => ?_)
  · have h := ite_t c14 h
    refine V_iconst hC (0 : Int32) dL_comesBack_312 (by decide) ?_
    obtain ⟨rfl, rfl⟩ := Prod.mk.inj (Option.some.inj h)
    exact V_pzret hC hr hlk (by omega) (by omega) (Or.inl rfl) dL_comesBack_313
  · have h := ite_f c14 h
    refine V_aload_n hC dL_comesBack_270 rfl 0 rfl ?_
    refine V_iload_n hC dL_comesBack_271 rfl 1 rfl ?_
    obtain ⟨q15, e15, h⟩ := bind_some h
    refine V_cW hC hX [.ref (adr G 6 0), .int x1] (c_L_discard (l := l) (rv := q15.1) (Mf := q15.2) hlt hC.2.2.2.2.2.2.2 e15) kx_L_discard gw_1070 gw_1069 ⟨Nat.le_of_ble_eq_true rfl, Nat.le_of_ble_eq_true rfl⟩ rfl (Nat.le_of_ble_eq_true rfl) dL_comesBack_272 ⟨by show _ ≤ 934; omega, by show _ ≤ 6 * 934; omega⟩ rfl ?_
    refine V_iload hC dL_comesBack_275 4 rfl ?_
    refine V_icmp_ne hC 312 dL_comesBack_277 (by decide) (fun c16 => ?_) (fun c16 => ?_)
    · have h := ite_f c16 h
      refine V_iconst hC (0 : Int32) dL_comesBack_312 (by decide) ?_
      obtain ⟨rfl, rfl⟩ := Prod.mk.inj (Option.some.inj h)
      exact V_pzret hC hr hlk (by omega) (by omega) (Or.inl rfl) dL_comesBack_313
    · have h := ite_t c16 h
      refine V_aload_n hC dL_comesBack_280 rfl 0 rfl ?_
      refine V_iload hC dL_comesBack_281 3 rfl ?_
      refine V_iconst hC (0 : Int32) dL_comesBack_283 (by decide) ?_
      obtain ⟨q17, e17, h⟩ := bind_some h
      refine V_cW hC hX [.ref (adr G 6 0), .int x4, .int (0 : Int32)] (c_L_line (l := l) (rv := q17.1) (Mf := q17.2) hlt hC.2.2.2.2.2.2.2 e17) kx_L_line gw_993 gw_992 ⟨Nat.le_of_ble_eq_true rfl, Nat.le_of_ble_eq_true rfl⟩ rfl (Nat.le_of_ble_eq_true rfl) dL_comesBack_284 ⟨by show _ ≤ 934; omega, by show _ ≤ 6 * 934; omega⟩ rfl ?_
      refine V_iload hC dL_comesBack_287 5 rfl ?_
      refine V_icmp_ne hC 312 dL_comesBack_289 (by decide) (fun c18 => ?_) (fun c18 => ?_)
      · have h := ite_f c18 h
        refine V_iconst hC (0 : Int32) dL_comesBack_312 (by decide) ?_
        obtain ⟨rfl, rfl⟩ := Prod.mk.inj (Option.some.inj h)
        exact V_pzret hC hr hlk (by omega) (by omega) (Or.inl rfl) dL_comesBack_313
      · have h := ite_t c18 h
        refine V_aload_n hC dL_comesBack_292 rfl 0 rfl ?_
        obtain ⟨q19, e19, h⟩ := bind_some h
        refine V_cW hC hX [.ref (adr G 6 0)] (c_L_undo (l := l) (rv := q19.1) (Mf := q19.2) hlt hC.2.2.2.2.2.2.2 e19) kx_L_undo gw_947 gw_946 ⟨Nat.le_of_ble_eq_true rfl, Nat.le_of_ble_eq_true rfl⟩ rfl (Nat.le_of_ble_eq_true rfl) dL_comesBack_293 ⟨by show _ ≤ 934; omega, by show _ ≤ 6 * 934; omega⟩ rfl ?_
        refine V_if_lt hC 312 dL_comesBack_296 (by decide) (fun c20 => ?_) (fun c20 => ?_)
        · have h := ite_t c20 h
          refine V_iconst hC (0 : Int32) dL_comesBack_312 (by decide) ?_
          obtain ⟨rfl, rfl⟩ := Prod.mk.inj (Option.some.inj h)
          exact V_pzret hC hr hlk (by omega) (by omega) (Or.inl rfl) dL_comesBack_313
        · have h := ite_f c20 h
          refine V_aload_n hC dL_comesBack_299 rfl 0 rfl ?_
          obtain ⟨q21, e21, h⟩ := bind_some h
          refine V_cL (K := 451) hC hX [.ref (adr G 6 0)] (c_L_print (l := l) (rv := q21.1) (Mf := q21.2) hlt hC.2.2.2.2.2.2.2 e21) kd_L_print gw_961 gw_960 ⟨Nat.le_of_ble_eq_true rfl, Nat.le_of_ble_eq_true rfl⟩ rfl (Nat.le_of_ble_eq_true rfl) dL_comesBack_300 ⟨by show _ ≤ 934; omega, by show _ ≤ 6 * 934; omega⟩ rfl ?_
          refine V_lload_n hC dL_comesBack_303 rfl 2 rfl ?_
          refine V_lcmp hC dL_comesBack_304 ?_
          refine V_if_ne hC 312 dL_comesBack_305 (by decide) (fun c22 => ?_) (fun c22 => ?_)
          · have h := ite_f c22 h
            refine V_iconst hC (0 : Int32) dL_comesBack_312 (by decide) ?_
            obtain ⟨rfl, rfl⟩ := Prod.mk.inj (Option.some.inj h)
            exact V_pzret hC hr hlk (by omega) (by omega) (Or.inl rfl) dL_comesBack_313
          · have h := ite_t c22 h
            refine V_iconst hC (1 : Int32) dL_comesBack_308 (by decide) ?_
            refine V_goto hC 313 dL_comesBack_309 (by decide) ?_
            obtain ⟨rfl, rfl⟩ := Prod.mk.inj (Option.some.inj h)
            exact V_pzret hC hr hlk (by omega) (by omega) (Or.inr rfl) dL_comesBack_313
set_option maxRecDepth 100000 in
set_option maxHeartbeats 8000000 in
theorem b_L_comesBack_259 {u : Nat} {v124 : Nat} {rv : Int32} {Mf : Mem} {k124 : Int32 → Int32 → Mem → Option (Int32 × Mem)} {x1 : Int32} {x2 : Int64} {x4 : Int32} {x5 : Int32} {x6 : Int32} {x7 : Int32} {x8 : Int32} {x9 : Int32} {x10 : Int32} {x11 : Int32} {x12 : Int32} {M : Mem} (hC : Cx p s m args c cL_comesBack RL 14 G) (hr : meth.sig.returnType = some .boolean) (hlk : meth.locks = false) (hX : XF G s) (hlt : l.stackTraces = false) (hk124 : ∀ (u : Nat) (x11 : Int32) (x12 : Int32) (M : Mem), u + v124 ≤ 934 → k124 x11 x12 M = some (rv, Mf) → V p l e (rmc 12 934) s m args below meth c 14 G (u) (6 * (u)) (MQ below (gQ G (some (.int rv)) Mf) args s 934 (6 * 934) (gA G)) 124 [(0, .ref (adr G 6 0)), (1, .int x1), (2, .long x2), (4, .int x4), (5, .int x5), (6, .int x6), (7, .int x7), (8, .int x8), (9, .int x9), (10, .int x10), (11, .int x11), (12, .int x12)] [] M) (hv124 : 454 ≤ v124) (hu : u + (0 + v124) ≤ 934) (h : B_L_comesBack_259 k124 x1 x2 x4 x5 x6 x7 x8 x9 x10 x11 x12 M = some (rv, Mf)) : V p l e (rmc 12 934) s m args below meth c 14 G (u) (6 * (u)) (MQ below (gQ G (some (.int rv)) Mf) args s 934 (6 * 934) (gA G)) 259 [(0, .ref (adr G 6 0)), (1, .int x1), (2, .long x2), (4, .int x4), (5, .int x5), (6, .int x6), (7, .int x7), (8, .int x8), (9, .int x9), (10, .int x10), (11, .int x11), (12, .int x12)] [] M := by
  refine V_iinc hC (x12 + 1) ([(12, .int (x12 + 1)), (0, .ref (adr G 6 0)), (1, .int x1), (2, .long x2), (4, .int x4), (5, .int x5), (6, .int x6), (7, .int x7), (8, .int x8), (9, .int x9), (10, .int x10), (11, .int x11)]) dL_comesBack_259 11 rfl rfl (by decide) rfl ?_
  refine V_goto hC 124 dL_comesBack_262 (by decide) ?_
  refine V_sub [1, 2, 3, 4, 5, 6, 7, 8, 9, 10, 11, 0] rfl ?_
  refine V_widen (k := u + 0) (n := 6 * (u + 0)) (by omega) (by omega) ?_
  exact hk124 _ _ _ _ (by omega) h
set_option maxRecDepth 100000 in
set_option maxHeartbeats 8000000 in
theorem b_L_comesBack_257 {u : Nat} {v124 : Nat} {rv : Int32} {Mf : Mem} {k124 : Int32 → Int32 → Mem → Option (Int32 × Mem)} {x1 : Int32} {x2 : Int64} {x4 : Int32} {x5 : Int32} {x6 : Int32} {x7 : Int32} {x8 : Int32} {x9 : Int32} {x10 : Int32} {x12 : Int32} {z0 : Int32} {M : Mem} (hC : Cx p s m args c cL_comesBack RL 14 G) (hr : meth.sig.returnType = some .boolean) (hlk : meth.locks = false) (hX : XF G s) (hlt : l.stackTraces = false) (hk124 : ∀ (u : Nat) (x11 : Int32) (x12 : Int32) (M : Mem), u + v124 ≤ 934 → k124 x11 x12 M = some (rv, Mf) → V p l e (rmc 12 934) s m args below meth c 14 G (u) (6 * (u)) (MQ below (gQ G (some (.int rv)) Mf) args s 934 (6 * 934) (gA G)) 124 [(0, .ref (adr G 6 0)), (1, .int x1), (2, .long x2), (4, .int x4), (5, .int x5), (6, .int x6), (7, .int x7), (8, .int x8), (9, .int x9), (10, .int x10), (11, .int x11), (12, .int x12)] [] M) (hv124 : 454 ≤ v124) (hu : u + (0 + v124) ≤ 934) (h : B_L_comesBack_257 k124 x1 x2 x4 x5 x6 x7 x8 x9 x10 x12 z0 M = some (rv, Mf)) : V p l e (rmc 12 934) s m args below meth c 14 G (u) (6 * (u)) (MQ below (gQ G (some (.int rv)) Mf) args s 934 (6 * 934) (gA G)) 257 [(0, .ref (adr G 6 0)), (1, .int x1), (2, .long x2), (4, .int x4), (5, .int x5), (6, .int x6), (7, .int x7), (8, .int x8), (9, .int x9), (10, .int x10), (12, .int x12)] [.int z0] M := by
  refine V_istore hC ([(11, .int z0), (0, .ref (adr G 6 0)), (1, .int x1), (2, .long x2), (4, .int x4), (5, .int x5), (6, .int x6), (7, .int x7), (8, .int x8), (9, .int x9), (10, .int x10), (12, .int x12)]) dL_comesBack_257 (by decide) rfl ?_
  refine V_sub [1, 2, 3, 4, 5, 6, 7, 8, 9, 10, 0, 11] rfl ?_
  refine V_widen (k := u + 0) (n := 6 * (u + 0)) (by omega) (by omega) ?_
  exact b_L_comesBack_259 hC hr hlk hX hlt hk124 hv124 (by omega) h
set_option maxRecDepth 100000 in
set_option maxHeartbeats 8000000 in
theorem b_L_comesBack_256 {u : Nat} {v124 : Nat} {rv : Int32} {Mf : Mem} {k124 : Int32 → Int32 → Mem → Option (Int32 × Mem)} {x1 : Int32} {x2 : Int64} {x4 : Int32} {x5 : Int32} {x6 : Int32} {x7 : Int32} {x8 : Int32} {x9 : Int32} {x10 : Int32} {x12 : Int32} {M : Mem} (hC : Cx p s m args c cL_comesBack RL 14 G) (hr : meth.sig.returnType = some .boolean) (hlk : meth.locks = false) (hX : XF G s) (hlt : l.stackTraces = false) (hk124 : ∀ (u : Nat) (x11 : Int32) (x12 : Int32) (M : Mem), u + v124 ≤ 934 → k124 x11 x12 M = some (rv, Mf) → V p l e (rmc 12 934) s m args below meth c 14 G (u) (6 * (u)) (MQ below (gQ G (some (.int rv)) Mf) args s 934 (6 * 934) (gA G)) 124 [(0, .ref (adr G 6 0)), (1, .int x1), (2, .long x2), (4, .int x4), (5, .int x5), (6, .int x6), (7, .int x7), (8, .int x8), (9, .int x9), (10, .int x10), (11, .int x11), (12, .int x12)] [] M) (hv124 : 454 ≤ v124) (hu : u + (0 + v124) ≤ 934) (h : B_L_comesBack_256 k124 x1 x2 x4 x5 x6 x7 x8 x9 x10 x12 M = some (rv, Mf)) : V p l e (rmc 12 934) s m args below meth c 14 G (u) (6 * (u)) (MQ below (gQ G (some (.int rv)) Mf) args s 934 (6 * 934) (gA G)) 256 [(0, .ref (adr G 6 0)), (1, .int x1), (2, .long x2), (4, .int x4), (5, .int x5), (6, .int x6), (7, .int x7), (8, .int x8), (9, .int x9), (10, .int x10), (12, .int x12)] [] M := by
  refine V_iconst hC (0 : Int32) dL_comesBack_256 (by decide) ?_
  refine V_widen (k := u + 0) (n := 6 * (u + 0)) (by omega) (by omega) ?_
  exact b_L_comesBack_257 hC hr hlk hX hlt hk124 hv124 (by omega) h
set_option maxRecDepth 100000 in
set_option maxHeartbeats 8000000 in
theorem b_L_comesBack_245 {u : Nat} {v124 : Nat} {rv : Int32} {Mf : Mem} {k124 : Int32 → Int32 → Mem → Option (Int32 × Mem)} {x1 : Int32} {x2 : Int64} {x4 : Int32} {x5 : Int32} {x6 : Int32} {x7 : Int32} {x8 : Int32} {x9 : Int32} {x10 : Int32} {x12 : Int32} {M : Mem} (hC : Cx p s m args c cL_comesBack RL 14 G) (hr : meth.sig.returnType = some .boolean) (hlk : meth.locks = false) (hX : XF G s) (hlt : l.stackTraces = false) (hk124 : ∀ (u : Nat) (x11 : Int32) (x12 : Int32) (M : Mem), u + v124 ≤ 934 → k124 x11 x12 M = some (rv, Mf) → V p l e (rmc 12 934) s m args below meth c 14 G (u) (6 * (u)) (MQ below (gQ G (some (.int rv)) Mf) args s 934 (6 * 934) (gA G)) 124 [(0, .ref (adr G 6 0)), (1, .int x1), (2, .long x2), (4, .int x4), (5, .int x5), (6, .int x6), (7, .int x7), (8, .int x8), (9, .int x9), (10, .int x10), (11, .int x11), (12, .int x12)] [] M) (hv124 : 454 ≤ v124) (hu : u + (1 + v124) ≤ 934) (h : B_L_comesBack_245 k124 x1 x2 x4 x5 x6 x7 x8 x9 x10 x12 M = some (rv, Mf)) : V p l e (rmc 12 934) s m args below meth c 14 G (u) (6 * (u)) (MQ below (gQ G (some (.int rv)) Mf) args s 934 (6 * 934) (gA G)) 245 [(0, .ref (adr G 6 0)), (1, .int x1), (2, .long x2), (4, .int x4), (5, .int x5), (6, .int x6), (7, .int x7), (8, .int x8), (9, .int x9), (10, .int x10), (12, .int x12)] [] M := by
  refine V_aload_n hC dL_comesBack_245 rfl 0 rfl ?_
  obtain ⟨q32, e32, h⟩ := bind_some h
  refine V_cW hC hX [.ref (adr G 6 0)] (c_L_undo (l := l) (rv := q32.1) (Mf := q32.2) hlt hC.2.2.2.2.2.2.2 e32) kx_L_undo gw_947 gw_946 ⟨Nat.le_of_ble_eq_true rfl, Nat.le_of_ble_eq_true rfl⟩ rfl (Nat.le_of_ble_eq_true rfl) dL_comesBack_246 ⟨by show _ ≤ 934; omega, by show _ ≤ 6 * 934; omega⟩ rfl ?_
  refine V_if_lt hC 256 dL_comesBack_249 (by decide) (fun c33 => ?_) (fun c33 => ?_)
  · have h := ite_t c33 h
    refine V_widen (k := u + 1) (n := 6 * (u + 1)) (by omega) (by omega) ?_
    exact b_L_comesBack_256 hC hr hlk hX hlt hk124 hv124 (by omega) h
  · have h := ite_f c33 h
    refine V_iconst hC (1 : Int32) dL_comesBack_252 (by decide) ?_
    refine V_goto hC 257 dL_comesBack_253 (by decide) ?_
    refine V_widen (k := u + 1) (n := 6 * (u + 1)) (by omega) (by omega) ?_
    exact b_L_comesBack_257 hC hr hlk hX hlt hk124 hv124 (by omega) h
set_option maxRecDepth 100000 in
set_option maxHeartbeats 8000000 in
theorem b_L_comesBack_221 {u : Nat} {v124 : Nat} {rv : Int32} {Mf : Mem} {k124 : Int32 → Int32 → Mem → Option (Int32 × Mem)} {x1 : Int32} {x2 : Int64} {x4 : Int32} {x5 : Int32} {x6 : Int32} {x7 : Int32} {x8 : Int32} {x9 : Int32} {x10 : Int32} {x12 : Int32} {M : Mem} (hC : Cx p s m args c cL_comesBack RL 14 G) (hr : meth.sig.returnType = some .boolean) (hlk : meth.locks = false) (hX : XF G s) (hlt : l.stackTraces = false) (hk124 : ∀ (u : Nat) (x11 : Int32) (x12 : Int32) (M : Mem), u + v124 ≤ 934 → k124 x11 x12 M = some (rv, Mf) → V p l e (rmc 12 934) s m args below meth c 14 G (u) (6 * (u)) (MQ below (gQ G (some (.int rv)) Mf) args s 934 (6 * 934) (gA G)) 124 [(0, .ref (adr G 6 0)), (1, .int x1), (2, .long x2), (4, .int x4), (5, .int x5), (6, .int x6), (7, .int x7), (8, .int x8), (9, .int x9), (10, .int x10), (11, .int x11), (12, .int x12)] [] M) (hv124 : 454 ≤ v124) (hu : u + (3 + v124) ≤ 934) (h : B_L_comesBack_221 k124 x1 x2 x4 x5 x6 x7 x8 x9 x10 x12 M = some (rv, Mf)) : V p l e (rmc 12 934) s m args below meth c 14 G (u) (6 * (u)) (MQ below (gQ G (some (.int rv)) Mf) args s 934 (6 * 934) (gA G)) 221 [(0, .ref (adr G 6 0)), (1, .int x1), (2, .long x2), (4, .int x4), (5, .int x5), (6, .int x6), (7, .int x7), (8, .int x8), (9, .int x9), (10, .int x10), (12, .int x12)] [] M := by
  refine V_aload_n hC dL_comesBack_221 rfl 0 rfl ?_
  refine V_iload hC dL_comesBack_222 3 rfl ?_
  refine V_iconst hC (0 : Int32) dL_comesBack_224 (by decide) ?_
  obtain ⟨q30, e30, h⟩ := bind_some h
  refine V_cW hC hX [.ref (adr G 6 0), .int x4, .int (0 : Int32)] (c_L_line (l := l) (rv := q30.1) (Mf := q30.2) hlt hC.2.2.2.2.2.2.2 e30) kx_L_line gw_993 gw_992 ⟨Nat.le_of_ble_eq_true rfl, Nat.le_of_ble_eq_true rfl⟩ rfl (Nat.le_of_ble_eq_true rfl) dL_comesBack_225 ⟨by show _ ≤ 934; omega, by show _ ≤ 6 * 934; omega⟩ rfl ?_
  refine V_iload hC dL_comesBack_228 9 rfl ?_
  refine V_icmp_eq hC 245 dL_comesBack_230 (by decide) (fun c31 => ?_) (fun c31 => ?_)
  · have h := ite_t c31 h
    refine V_widen (k := u + 1) (n := 6 * (u + 1)) (by omega) (by omega) ?_
    exact b_L_comesBack_245 hC hr hlk hX hlt hk124 hv124 (by omega) h
  · have h := ite_f c31 h
    refine V_aload_n hC dL_comesBack_233 rfl 0 rfl ?_
    refine V_iload hC dL_comesBack_234 3 rfl ?_
    refine V_iconst hC (0 : Int32) dL_comesBack_236 (by decide) ?_
    obtain ⟨q34, e34, h⟩ := bind_some h
    refine V_cW hC hX [.ref (adr G 6 0), .int x4, .int (0 : Int32)] (c_L_blame (l := l) (rv := q34.1) (Mf := q34.2) hlt hC.2.2.2.2.2.2.2 e34) kx_L_blame gw_1112 gw_1111 ⟨Nat.le_of_ble_eq_true rfl, Nat.le_of_ble_eq_true rfl⟩ rfl (Nat.le_of_ble_eq_true rfl) dL_comesBack_237 ⟨by show _ ≤ 934; omega, by show _ ≤ 6 * 934; omega⟩ rfl ?_
    refine V_iload hC dL_comesBack_240 6 rfl ?_
    refine V_icmp_ne hC 256 dL_comesBack_242 (by decide) (fun c35 => ?_) (fun c35 => ?_)
    · have h := ite_f c35 h
      refine V_widen (k := u + 2) (n := 6 * (u + 2)) (by omega) (by omega) ?_
      exact b_L_comesBack_256 hC hr hlk hX hlt hk124 hv124 (by omega) h
    · have h := ite_t c35 h
      refine V_widen (k := u + 2) (n := 6 * (u + 2)) (by omega) (by omega) ?_
      exact b_L_comesBack_245 hC hr hlk hX hlt hk124 hv124 (by omega) h
set_option maxRecDepth 100000 in
set_option maxHeartbeats 8000000 in
theorem b_L_comesBack_197 {u : Nat} {v124 : Nat} {rv : Int32} {Mf : Mem} {k124 : Int32 → Int32 → Mem → Option (Int32 × Mem)} {x1 : Int32} {x2 : Int64} {x4 : Int32} {x5 : Int32} {x6 : Int32} {x7 : Int32} {x8 : Int32} {x9 : Int32} {x10 : Int32} {x12 : Int32} {x13 : Int32} {M : Mem} (hC : Cx p s m args c cL_comesBack RL 14 G) (hr : meth.sig.returnType = some .boolean) (hlk : meth.locks = false) (hX : XF G s) (hlt : l.stackTraces = false) (hk124 : ∀ (u : Nat) (x11 : Int32) (x12 : Int32) (M : Mem), u + v124 ≤ 934 → k124 x11 x12 M = some (rv, Mf) → V p l e (rmc 12 934) s m args below meth c 14 G (u) (6 * (u)) (MQ below (gQ G (some (.int rv)) Mf) args s 934 (6 * 934) (gA G)) 124 [(0, .ref (adr G 6 0)), (1, .int x1), (2, .long x2), (4, .int x4), (5, .int x5), (6, .int x6), (7, .int x7), (8, .int x8), (9, .int x9), (10, .int x10), (11, .int x11), (12, .int x12)] [] M) (hv124 : 454 ≤ v124) (hu : u + (4 + v124) ≤ 934) (h : B_L_comesBack_197 k124 x1 x2 x4 x5 x6 x7 x8 x9 x10 x12 x13 M = some (rv, Mf)) : V p l e (rmc 12 934) s m args below meth c 14 G (u) (6 * (u)) (MQ below (gQ G (some (.int rv)) Mf) args s 934 (6 * 934) (gA G)) 197 [(0, .ref (adr G 6 0)), (1, .int x1), (2, .long x2), (4, .int x4), (5, .int x5), (6, .int x6), (7, .int x7), (8, .int x8), (9, .int x9), (10, .int x10), (12, .int x12), (13, .int x13)] [] M := by
  refine V_iload hC dL_comesBack_197 7 rfl ?_
  refine V_if_eq hC 221 dL_comesBack_199 (by decide) (fun c29 => ?_) (fun c29 => ?_)
  · have h := ite_t c29 h
    refine V_sub [0, 1, 2, 3, 4, 5, 6, 7, 8, 9, 10] rfl ?_
    refine V_widen (k := u + 0) (n := 6 * (u + 0)) (by omega) (by omega) ?_
    exact b_L_comesBack_221 hC hr hlk hX hlt hk124 hv124 (by omega) h
  · have h := ite_f c29 h
    refine V_aload_n hC dL_comesBack_202 rfl 0 rfl ?_
    refine V_iload hC dL_comesBack_203 3 rfl ?_
    refine V_iconst hC (0 : Int32) dL_comesBack_205 (by decide) ?_
    obtain ⟨q36, e36, h⟩ := bind_some h
    refine V_cW hC hX [.ref (adr G 6 0), .int x4, .int (0 : Int32)] (c_L_line (l := l) (rv := q36.1) (Mf := q36.2) hlt hC.2.2.2.2.2.2.2 e36) kx_L_line gw_993 gw_992 ⟨Nat.le_of_ble_eq_true rfl, Nat.le_of_ble_eq_true rfl⟩ rfl (Nat.le_of_ble_eq_true rfl) dL_comesBack_206 ⟨by show _ ≤ 934; omega, by show _ ≤ 6 * 934; omega⟩ rfl ?_
    refine V_iload hC dL_comesBack_209 8 rfl ?_
    refine V_icmp_ne hC 256 dL_comesBack_211 (by decide) (fun c37 => ?_) (fun c37 => ?_)
    · have h := ite_f c37 h
      refine V_sub [0, 1, 2, 3, 4, 5, 6, 7, 8, 9, 10] rfl ?_
      refine V_widen (k := u + 1) (n := 6 * (u + 1)) (by omega) (by omega) ?_
      exact b_L_comesBack_256 hC hr hlk hX hlt hk124 hv124 (by omega) h
    · have h := ite_t c37 h
      refine V_iload hC dL_comesBack_214 11 rfl ?_
      refine V_iload hC dL_comesBack_216 5 rfl ?_
      refine V_icmp_ne hC 256 dL_comesBack_218 (by decide) (fun c38 => ?_) (fun c38 => ?_)
      · have h := ite_f c38 h
        refine V_sub [0, 1, 2, 3, 4, 5, 6, 7, 8, 9, 10] rfl ?_
        refine V_widen (k := u + 1) (n := 6 * (u + 1)) (by omega) (by omega) ?_
        exact b_L_comesBack_256 hC hr hlk hX hlt hk124 hv124 (by omega) h
      · have h := ite_t c38 h
        refine V_sub [0, 1, 2, 3, 4, 5, 6, 7, 8, 9, 10] rfl ?_
        refine V_widen (k := u + 1) (n := 6 * (u + 1)) (by omega) (by omega) ?_
        exact b_L_comesBack_221 hC hr hlk hX hlt hk124 hv124 (by omega) h
set_option maxRecDepth 100000 in
set_option maxHeartbeats 8000000 in
theorem b_L_comesBack_170 {u : Nat} {v124 : Nat} {rv : Int32} {Mf : Mem} {k124 : Int32 → Int32 → Mem → Option (Int32 × Mem)} {x1 : Int32} {x2 : Int64} {x4 : Int32} {x5 : Int32} {x6 : Int32} {x7 : Int32} {x8 : Int32} {x9 : Int32} {x10 : Int32} {x12 : Int32} {z0 : Int32} {M : Mem} (hC : Cx p s m args c cL_comesBack RL 14 G) (hr : meth.sig.returnType = some .boolean) (hlk : meth.locks = false) (hX : XF G s) (hlt : l.stackTraces = false) (hk124 : ∀ (u : Nat) (x11 : Int32) (x12 : Int32) (M : Mem), u + v124 ≤ 934 → k124 x11 x12 M = some (rv, Mf) → V p l e (rmc 12 934) s m args below meth c 14 G (u) (6 * (u)) (MQ below (gQ G (some (.int rv)) Mf) args s 934 (6 * 934) (gA G)) 124 [(0, .ref (adr G 6 0)), (1, .int x1), (2, .long x2), (4, .int x4), (5, .int x5), (6, .int x6), (7, .int x7), (8, .int x8), (9, .int x9), (10, .int x10), (11, .int x11), (12, .int x12)] [] M) (hv124 : 454 ≤ v124) (hu : u + (0 + v124) ≤ 934) (h : B_L_comesBack_170 k124 x1 x2 x4 x5 x6 x7 x8 x9 x10 x12 z0 M = some (rv, Mf)) : V p l e (rmc 12 934) s m args below meth c 14 G (u) (6 * (u)) (MQ below (gQ G (some (.int rv)) Mf) args s 934 (6 * 934) (gA G)) 170 [(0, .ref (adr G 6 0)), (1, .int x1), (2, .long x2), (4, .int x4), (5, .int x5), (6, .int x6), (7, .int x7), (8, .int x8), (9, .int x9), (10, .int x10), (12, .int x12)] [.int z0] M := by
  refine V_istore hC ([(11, .int z0), (0, .ref (adr G 6 0)), (1, .int x1), (2, .long x2), (4, .int x4), (5, .int x5), (6, .int x6), (7, .int x7), (8, .int x8), (9, .int x9), (10, .int x10), (12, .int x12)]) dL_comesBack_170 (by decide) rfl ?_
  refine V_goto hC 259 dL_comesBack_172 (by decide) ?_
  refine V_sub [1, 2, 3, 4, 5, 6, 7, 8, 9, 10, 0, 11] rfl ?_
  refine V_widen (k := u + 0) (n := 6 * (u + 0)) (by omega) (by omega) ?_
  exact b_L_comesBack_259 hC hr hlk hX hlt hk124 hv124 (by omega) h
set_option maxRecDepth 100000 in
set_option maxHeartbeats 8000000 in
theorem b_L_comesBack_169 {u : Nat} {v124 : Nat} {rv : Int32} {Mf : Mem} {k124 : Int32 → Int32 → Mem → Option (Int32 × Mem)} {x1 : Int32} {x2 : Int64} {x4 : Int32} {x5 : Int32} {x6 : Int32} {x7 : Int32} {x8 : Int32} {x9 : Int32} {x10 : Int32} {x12 : Int32} {M : Mem} (hC : Cx p s m args c cL_comesBack RL 14 G) (hr : meth.sig.returnType = some .boolean) (hlk : meth.locks = false) (hX : XF G s) (hlt : l.stackTraces = false) (hk124 : ∀ (u : Nat) (x11 : Int32) (x12 : Int32) (M : Mem), u + v124 ≤ 934 → k124 x11 x12 M = some (rv, Mf) → V p l e (rmc 12 934) s m args below meth c 14 G (u) (6 * (u)) (MQ below (gQ G (some (.int rv)) Mf) args s 934 (6 * 934) (gA G)) 124 [(0, .ref (adr G 6 0)), (1, .int x1), (2, .long x2), (4, .int x4), (5, .int x5), (6, .int x6), (7, .int x7), (8, .int x8), (9, .int x9), (10, .int x10), (11, .int x11), (12, .int x12)] [] M) (hv124 : 454 ≤ v124) (hu : u + (0 + v124) ≤ 934) (h : B_L_comesBack_169 k124 x1 x2 x4 x5 x6 x7 x8 x9 x10 x12 M = some (rv, Mf)) : V p l e (rmc 12 934) s m args below meth c 14 G (u) (6 * (u)) (MQ below (gQ G (some (.int rv)) Mf) args s 934 (6 * 934) (gA G)) 169 [(0, .ref (adr G 6 0)), (1, .int x1), (2, .long x2), (4, .int x4), (5, .int x5), (6, .int x6), (7, .int x7), (8, .int x8), (9, .int x9), (10, .int x10), (12, .int x12)] [] M := by
  refine V_iconst hC (0 : Int32) dL_comesBack_169 (by decide) ?_
  refine V_widen (k := u + 0) (n := 6 * (u + 0)) (by omega) (by omega) ?_
  exact b_L_comesBack_170 hC hr hlk hX hlt hk124 hv124 (by omega) h
set_option maxRecDepth 100000 in
set_option maxHeartbeats 8000000 in
theorem l_L_comesBack_124 {rv : Int32} {Mf : Mem} {x1 : Int32} {x2 : Int64} {x4 : Int32} {x5 : Int32} {x6 : Int32} {x7 : Int32} {x8 : Int32} {x9 : Int32} {x10 : Int32} (hC : Cx p s m args c cL_comesBack RL 14 G) (hr : meth.sig.returnType = some .boolean) (hlk : meth.locks = false) (hX : XF G s) (hlt : l.stackTraces = false) : ∀ (n : Nat) {u : Nat} {x11 : Int32} {x12 : Int32} {M : Mem} (hu : u + (5 * n + (454)) ≤ 934) (h : L_L_comesBack_124 x1 x2 x4 x5 x6 x7 x8 x9 x10 n x11 x12 M = some (rv, Mf)), V p l e (rmc 12 934) s m args below meth c 14 G (u) (6 * (u)) (MQ below (gQ G (some (.int rv)) Mf) args s 934 (6 * 934) (gA G)) 124 [(0, .ref (adr G 6 0)), (1, .int x1), (2, .long x2), (4, .int x4), (5, .int x5), (6, .int x6), (7, .int x7), (8, .int x8), (9, .int x9), (10, .int x10), (11, .int x11), (12, .int x12)] [] M := by
  intro n
  induction n with
  | zero => intro u x11 x12 M hu h; cases h
  | succ n ih =>
    intro u x11 x12 M hu h
    rw [Nat.mul_succ] at hu
    obtain ⟨v124, ev124⟩ : ∃ v, v = 5 * n + (454) := ⟨_, rfl⟩
    have hv124 : 454 ≤ v124 := by rw [ev124]; exact Nat.le_add_left _ _
    have hk124 : ∀ (u : Nat) (x11 : Int32) (x12 : Int32) (M : Mem), u + v124 ≤ 934 → L_L_comesBack_124 x1 x2 x4 x5 x6 x7 x8 x9 x10 n x11 x12 M = some (rv, Mf) → V p l e (rmc 12 934) s m args below meth c 14 G (u) (6 * (u)) (MQ below (gQ G (some (.int rv)) Mf) args s 934 (6 * 934) (gA G)) 124 [(0, .ref (adr G 6 0)), (1, .int x1), (2, .long x2), (4, .int x4), (5, .int x5), (6, .int x6), (7, .int x7), (8, .int x8), (9, .int x9), (10, .int x10), (11, .int x11), (12, .int x12)] [] M := fun _ _ _ _ hw z => ih (by rw [← ev124]; exact hw) z
    have hu : u + 5 + v124 ≤ 934 := bud hu ev124
    clear ih ev124
    refine V_iload hC dL_comesBack_124 11 rfl ?_
    refine V_iconst hC (3 : Int32) dL_comesBack_126 (by decide) ?_
    refine V_icmp_ge hC 265 dL_comesBack_127 (by decide) (fun c13 => ?_) (fun c13 => ?_)
    · have h := ite_t c13 h
      refine V_sub [0, 1, 2, 3, 5, 9, 10] rfl ?_
      refine V_widen (k := u + 0) (n := 6 * (u + 0)) (by omega) (by omega) ?_
      exact b_L_comesBack_265 hC hr hlk hX hlt (by omega) h
    · have h := ite_f c13 h
      refine V_iload hC dL_comesBack_130 10 rfl ?_
      refine V_if_eq hC 265 dL_comesBack_132 (by decide) (fun c23 => ?_) (fun c23 => ?_)
      · have h := ite_t c23 h
        refine V_sub [0, 1, 2, 3, 5, 9, 10] rfl ?_
        refine V_widen (k := u + 0) (n := 6 * (u + 0)) (by omega) (by omega) ?_
        exact b_L_comesBack_265 hC hr hlk hX hlt (by omega) h
      · have h := ite_f c23 h
        refine V_aload_n hC dL_comesBack_135 rfl 0 rfl ?_
        refine V_iload_n hC dL_comesBack_136 rfl 1 rfl ?_
        refine V_iload hC dL_comesBack_137 11 rfl ?_
        obtain ⟨q24, e24, h⟩ := bind_some h
        refine V_cW hC hX [.ref (adr G 6 0), .int x1, .int x12] (c_L_giveBack (l := l) (rv := q24.1) (Mf := q24.2) hlt hC.2.2.2.2.2.2.2 e24) kx_L_giveBack gw_809 gw_808 ⟨Nat.le_of_ble_eq_true rfl, Nat.le_of_ble_eq_true rfl⟩ rfl (Nat.le_of_ble_eq_true rfl) dL_comesBack_139 ⟨by show _ ≤ 934; omega, by show _ ≤ 6 * 934; omega⟩ rfl ?_
        refine V_istore hC ([(13, .int q24.1), (0, .ref (adr G 6 0)), (1, .int x1), (2, .long x2), (4, .int x4), (5, .int x5), (6, .int x6), (7, .int x7), (8, .int x8), (9, .int x9), (10, .int x10), (11, .int x11), (12, .int x12)]) dL_comesBack_142 (by decide) rfl ?_
        refine V_iload hC dL_comesBack_144 0 rfl ?_
        refine V_bipush hC ((-52) : Int32) dL_comesBack_146 (by decide) ?_
        refine V_icmp_ne hC 175 dL_comesBack_148 (by decide) (fun c25 => ?_) (fun c25 => ?_)
        · have h := ite_f c25 h
          refine V_iload hC dL_comesBack_175 0 rfl ?_
          refine V_if_lt hC 256 dL_comesBack_177 (by decide) (fun c26 => ?_) (fun c26 => ?_)
          · have h := ite_t c26 h
            refine V_sub [1, 2, 3, 4, 5, 6, 7, 8, 9, 10, 12] rfl ?_
            refine V_widen (k := u + 1) (n := 6 * (u + 1)) (by omega) (by omega) ?_
            exact b_L_comesBack_256 hC hr hlk hX hlt hk124 hv124 (by omega) h
          · have h := ite_f c26 h
            refine V_iload hC dL_comesBack_180 0 rfl ?_
            refine V_iload hC dL_comesBack_182 6 rfl ?_
            refine V_icmp_gt hC 256 dL_comesBack_184 (by decide) (fun c27 => ?_) (fun c27 => ?_)
            · have h := ite_t c27 h
              refine V_sub [1, 2, 3, 4, 5, 6, 7, 8, 9, 10, 12] rfl ?_
              refine V_widen (k := u + 1) (n := 6 * (u + 1)) (by omega) (by omega) ?_
              exact b_L_comesBack_256 hC hr hlk hX hlt hk124 hv124 (by omega) h
            · have h := ite_f c27 h
              refine V_iload hC dL_comesBack_187 12 rfl ?_
              refine V_if_gt hC 197 dL_comesBack_189 (by decide) (fun c28 => ?_) (fun c28 => ?_)
              · have h := ite_t c28 h
                refine V_sub [1, 2, 3, 4, 5, 6, 7, 8, 9, 10, 12, 0] rfl ?_
                refine V_widen (k := u + 1) (n := 6 * (u + 1)) (by omega) (by omega) ?_
                exact b_L_comesBack_197 hC hr hlk hX hlt hk124 hv124 (by omega) h
              · have h := ite_f c28 h
                refine V_iload hC dL_comesBack_192 5 rfl ?_
                refine V_if_ne hC 256 dL_comesBack_194 (by decide) (fun c39 => ?_) (fun c39 => ?_)
                · have h := ite_f c39 h
                  refine V_sub [1, 2, 3, 4, 5, 6, 7, 8, 9, 10, 12] rfl ?_
                  refine V_widen (k := u + 1) (n := 6 * (u + 1)) (by omega) (by omega) ?_
                  exact b_L_comesBack_256 hC hr hlk hX hlt hk124 hv124 (by omega) h
                · have h := ite_t c39 h
                  refine V_sub [1, 2, 3, 4, 5, 6, 7, 8, 9, 10, 12, 0] rfl ?_
                  refine V_widen (k := u + 1) (n := 6 * (u + 1)) (by omega) (by omega) ?_
                  exact b_L_comesBack_197 hC hr hlk hX hlt hk124 hv124 (by omega) h
        · have h := ite_t c25 h
          refine V_iload hC dL_comesBack_151 8 rfl ?_
          refine V_if_ne hC 169 dL_comesBack_153 (by decide) (fun c40 => ?_) (fun c40 => ?_)
          · have h := ite_f c40 h
            refine V_sub [1, 2, 3, 4, 5, 6, 7, 8, 9, 10, 12] rfl ?_
            refine V_widen (k := u + 1) (n := 6 * (u + 1)) (by omega) (by omega) ?_
            exact b_L_comesBack_169 hC hr hlk hX hlt hk124 hv124 (by omega) h
          · have h := ite_t c40 h
            refine V_aload_n hC dL_comesBack_156 rfl 1 rfl ?_
            refine V_iload_n hC dL_comesBack_157 rfl 2 rfl ?_
            refine V_iconst hC (3 : Int32) dL_comesBack_158 (by decide) ?_
            obtain ⟨q41, e41, h⟩ := bind_some h
            refine V_cW hC hX [.ref (adr G 6 0), .int x1, .int (3 : Int32)] (c_L_checkOut (l := l) (rv := q41.1) (Mf := q41.2) hlt hC.2.2.2.2.2.2.2 e41) kx_L_checkOut gw_1014 gw_1013 ⟨Nat.le_of_ble_eq_true rfl, Nat.le_of_ble_eq_true rfl⟩ rfl (Nat.le_of_ble_eq_true rfl) dL_comesBack_159 ⟨by show _ ≤ 934; omega, by show _ ≤ 6 * 934; omega⟩ rfl ?_
            refine V_if_ne hC 169 dL_comesBack_162 (by decide) (fun c42 => ?_) (fun c42 => ?_)
            · have h := ite_f c42 h
              refine V_sub [1, 2, 3, 4, 5, 6, 7, 8, 9, 10, 12] rfl ?_
              refine V_widen (k := u + 2) (n := 6 * (u + 2)) (by omega) (by omega) ?_
              exact b_L_comesBack_169 hC hr hlk hX hlt hk124 hv124 (by omega) h
            · have h := ite_t c42 h
              refine V_iconst hC (1 : Int32) dL_comesBack_165 (by decide) ?_
              refine V_goto hC 170 dL_comesBack_166 (by decide) ?_
              refine V_sub [1, 2, 3, 4, 5, 6, 7, 8, 9, 10, 12] rfl ?_
              refine V_widen (k := u + 2) (n := 6 * (u + 2)) (by omega) (by omega) ?_
              exact b_L_comesBack_170 hC hr hlk hX hlt hk124 hv124 (by omega) h
set_option maxRecDepth 100000 in
set_option maxHeartbeats 8000000 in
theorem b_L_comesBack_119 {u : Nat} {rv : Int32} {Mf : Mem} {x1 : Int32} {x2 : Int64} {x4 : Int32} {x5 : Int32} {x6 : Int32} {x7 : Int32} {x8 : Int32} {x9 : Int32} {x10 : Int32} {z0 : Int32} {M : Mem} (hC : Cx p s m args c cL_comesBack RL 14 G) (hr : meth.sig.returnType = some .boolean) (hlk : meth.locks = false) (hX : XF G s) (hlt : l.stackTraces = false) (hu : u + (474) ≤ 934) (h : B_L_comesBack_119 x1 x2 x4 x5 x6 x7 x8 x9 x10 z0 M = some (rv, Mf)) : V p l e (rmc 12 934) s m args below meth c 14 G (u) (6 * (u)) (MQ below (gQ G (some (.int rv)) Mf) args s 934 (6 * 934) (gA G)) 119 [(0, .ref (adr G 6 0)), (1, .int x1), (2, .long x2), (4, .int x4), (5, .int x5), (6, .int x6), (7, .int x7), (8, .int x8), (9, .int x9), (10, .int x10)] [.int z0] M := by
  refine V_istore hC ([(11, .int z0), (0, .ref (adr G 6 0)), (1, .int x1), (2, .long x2), (4, .int x4), (5, .int x5), (6, .int x6), (7, .int x7), (8, .int x8), (9, .int x9), (10, .int x10)]) dL_comesBack_119 (by decide) rfl ?_
  refine V_iconst hC (0 : Int32) dL_comesBack_121 (by decide) ?_
  refine V_istore hC ([(12, .int (0 : Int32)), (11, .int z0), (0, .ref (adr G 6 0)), (1, .int x1), (2, .long x2), (4, .int x4), (5, .int x5), (6, .int x6), (7, .int x7), (8, .int x8), (9, .int x9), (10, .int x10)]) dL_comesBack_122 (by decide) rfl ?_
  refine V_sub [2, 3, 4, 5, 6, 7, 8, 9, 10, 11, 1, 0] rfl ?_
  refine V_widen (k := u + 0) (n := 6 * (u + 0)) (by omega) (by omega) ?_
  exact l_L_comesBack_124 hC hr hlk hX hlt 4 (by omega) h
set_option maxRecDepth 100000 in
set_option maxHeartbeats 8000000 in
theorem b_L_comesBack_85 {u : Nat} {rv : Int32} {Mf : Mem} {x1 : Int32} {x2 : Int64} {x4 : Int32} {x5 : Int32} {x6 : Int32} {x7 : Int32} {z0 : Int32} {M : Mem} (hC : Cx p s m args c cL_comesBack RL 14 G) (hr : meth.sig.returnType = some .boolean) (hlk : meth.locks = false) (hX : XF G s) (hlt : l.stackTraces = false) (hu : u + (476) ≤ 934) (h : B_L_comesBack_85 x1 x2 x4 x5 x6 x7 z0 M = some (rv, Mf)) : V p l e (rmc 12 934) s m args below meth c 14 G (u) (6 * (u)) (MQ below (gQ G (some (.int rv)) Mf) args s 934 (6 * 934) (gA G)) 85 [(0, .ref (adr G 6 0)), (1, .int x1), (2, .long x2), (4, .int x4), (5, .int x5), (6, .int x6), (7, .int x7)] [.int z0] M := by
  refine V_istore hC ([(8, .int z0), (0, .ref (adr G 6 0)), (1, .int x1), (2, .long x2), (4, .int x4), (5, .int x5), (6, .int x6), (7, .int x7)]) dL_comesBack_85 (by decide) rfl ?_
  refine V_aload_n hC dL_comesBack_87 rfl 1 rfl ?_
  refine V_iload_n hC dL_comesBack_88 rfl 2 rfl ?_
  refine V_iload hC dL_comesBack_89 4 rfl ?_
  refine V_iconst hC (0 : Int32) dL_comesBack_91 (by decide) ?_
  refine V_iconst hC (0 : Int32) dL_comesBack_92 (by decide) ?_
  obtain ⟨q10, e10, h⟩ := bind_some h
  refine V_cW hC hX [.ref (adr G 6 0), .int x1, .int x4, .int (0 : Int32), .int (0 : Int32)] (c_L_copied (l := l) (rv := q10.1) (Mf := q10.2) hlt hC.2.2.2.2.2.2.2 e10) kx_L_copied gw_1027 gw_1026 ⟨Nat.le_of_ble_eq_true rfl, Nat.le_of_ble_eq_true rfl⟩ rfl (Nat.le_of_ble_eq_true rfl) dL_comesBack_93 ⟨by show _ ≤ 934; omega, by show _ ≤ 6 * 934; omega⟩ rfl ?_
  refine V_istore hC ([(9, .int q10.1), (8, .int z0), (0, .ref (adr G 6 0)), (1, .int x1), (2, .long x2), (4, .int x4), (5, .int x5), (6, .int x6), (7, .int x7)]) dL_comesBack_96 (by decide) rfl ?_
  refine V_aload_n hC dL_comesBack_98 rfl 2 rfl ?_
  refine V_iload hC dL_comesBack_99 5 rfl ?_
  refine V_iconst hC (0 : Int32) dL_comesBack_101 (by decide) ?_
  obtain ⟨q11, e11, h⟩ := bind_some h
  refine V_cW hC hX [.ref (adr G 6 0), .int x4, .int (0 : Int32)] (c_L_line (l := l) (rv := q11.1) (Mf := q11.2) hlt hC.2.2.2.2.2.2.2 e11) kx_L_line gw_993 gw_992 ⟨Nat.le_of_ble_eq_true rfl, Nat.le_of_ble_eq_true rfl⟩ rfl (Nat.le_of_ble_eq_true rfl) dL_comesBack_102 ⟨by show _ ≤ 934; omega, by show _ ≤ 6 * 934; omega⟩ rfl ?_
  refine V_istore hC ([(10, .int q11.1), (9, .int q10.1), (8, .int z0), (0, .ref (adr G 6 0)), (1, .int x1), (2, .long x2), (4, .int x4), (5, .int x5), (6, .int x6), (7, .int x7)]) dL_comesBack_105 (by decide) rfl ?_
  refine V_iload hC dL_comesBack_107 7 rfl ?_
  refine V_iload hC dL_comesBack_109 8 rfl ?_
  refine V_icmp_gt hC 118 dL_comesBack_111 (by decide) (fun c12 => ?_) (fun c12 => ?_)
  · have h := ite_t c12 h
    refine V_iconst hC (0 : Int32) dL_comesBack_118 (by decide) ?_
    refine V_sub [3, 4, 5, 6, 7, 8, 9, 2, 1, 0] rfl ?_
    refine V_widen (k := u + 2) (n := 6 * (u + 2)) (by omega) (by omega) ?_
    exact b_L_comesBack_119 hC hr hlk hX hlt (by omega) h
  · have h := ite_f c12 h
    refine V_iconst hC (1 : Int32) dL_comesBack_114 (by decide) ?_
    refine V_goto hC 119 dL_comesBack_115 (by decide) ?_
    refine V_sub [3, 4, 5, 6, 7, 8, 9, 2, 1, 0] rfl ?_
    refine V_widen (k := u + 2) (n := 6 * (u + 2)) (by omega) (by omega) ?_
    exact b_L_comesBack_119 hC hr hlk hX hlt (by omega) h
set_option maxRecDepth 100000 in
set_option maxHeartbeats 8000000 in
theorem b_L_comesBack_84 {u : Nat} {rv : Int32} {Mf : Mem} {x1 : Int32} {x2 : Int64} {x4 : Int32} {x5 : Int32} {x6 : Int32} {x7 : Int32} {M : Mem} (hC : Cx p s m args c cL_comesBack RL 14 G) (hr : meth.sig.returnType = some .boolean) (hlk : meth.locks = false) (hX : XF G s) (hlt : l.stackTraces = false) (hu : u + (476) ≤ 934) (h : B_L_comesBack_84 x1 x2 x4 x5 x6 x7 M = some (rv, Mf)) : V p l e (rmc 12 934) s m args below meth c 14 G (u) (6 * (u)) (MQ below (gQ G (some (.int rv)) Mf) args s 934 (6 * 934) (gA G)) 84 [(0, .ref (adr G 6 0)), (1, .int x1), (2, .long x2), (4, .int x4), (5, .int x5), (6, .int x6), (7, .int x7)] [] M := by
  refine V_iconst hC (0 : Int32) dL_comesBack_84 (by decide) ?_
  refine V_widen (k := u + 0) (n := 6 * (u + 0)) (by omega) (by omega) ?_
  exact b_L_comesBack_85 hC hr hlk hX hlt (by omega) h
set_option maxRecDepth 100000 in
set_option maxHeartbeats 8000000 in
theorem c_L_comesBack {l : Launch} {G : Geo} {x1 : Int32} {rv : Int32} {Mf : Mem} {M : Mem} (hlt : l.stackTraces = false) (hG : gD G) (h : f_L_comesBack x1 M = some (rv, Mf)) : Met l yL_comesBack (.code yL_comesBack cL_comesBack 14 (some .boolean) :: GL) (rmc 12 934) (gPx G [.ref (adr G 6 0), .int x1] M) (gQ G (some (.int rv)) Mf) 934 (6 * 934) (gA G) := by
  refine PMet_of (own := RL) (L := [(0, .ref (adr G 6 0)), (1, .int x1)]) hG (by decide +kernel) rfl (Nat.le_of_ble_eq_true rfl) rfl ?_
  intro p e s m args below meth c hC hX hr hlk
  obtain ⟨u, eu⟩ : ∃ u : Nat, u = 0 := ⟨0, rfl⟩
  have hu : u + 934 ≤ 934 := by omega
  refine V_u (u := u) eu ?_
  refine V_aload_n hC dL_comesBack_0 rfl 0 rfl ?_
  refine V_iload_n hC dL_comesBack_1 rfl 1 rfl ?_
  refine V_iconst hC (0 : Int32) dL_comesBack_2 (by decide) ?_
  obtain ⟨q1, e1, h⟩ := bind_some h
  refine V_cW hC hX [.ref (adr G 6 0), .int x1, .int (0 : Int32)] (c_L_checkOut (l := l) (rv := q1.1) (Mf := q1.2) hlt hC.2.2.2.2.2.2.2 e1) kx_L_checkOut gw_1014 gw_1013 ⟨Nat.le_of_ble_eq_true rfl, Nat.le_of_ble_eq_true rfl⟩ rfl (Nat.le_of_ble_eq_true rfl) dL_comesBack_3 ⟨by show _ ≤ 934; omega, by show _ ≤ 6 * 934; omega⟩ rfl ?_
  refine V_if_ge hC 25 dL_comesBack_6 (by decide) (fun c2 => ?_) (fun c2 => ?_)
  · have h := ite_t c2 h
    refine V_aload_n hC dL_comesBack_25 rfl 0 rfl ?_
    obtain ⟨q3, e3, h⟩ := bind_some h
    refine V_cL (K := 451) hC hX [.ref (adr G 6 0)] (c_L_print (l := l) (rv := q3.1) (Mf := q3.2) hlt hC.2.2.2.2.2.2.2 e3) kd_L_print gw_961 gw_960 ⟨Nat.le_of_ble_eq_true rfl, Nat.le_of_ble_eq_true rfl⟩ rfl (Nat.le_of_ble_eq_true rfl) dL_comesBack_26 ⟨by show _ ≤ 934; omega, by show _ ≤ 6 * 934; omega⟩ rfl ?_
    refine V_lstore_n hC ([(2, .long q3.1), (0, .ref (adr G 6 0)), (1, .int x1)]) dL_comesBack_29 rfl (by decide) rfl ?_
    refine V_aload_n hC dL_comesBack_30 rfl 1 rfl ?_
    refine V_iload_n hC dL_comesBack_31 rfl 2 rfl ?_
    refine V_iconst hC (1 : Int32) dL_comesBack_32 (by decide) ?_
    obtain ⟨q4, e4, h⟩ := bind_some h
    refine V_cW hC hX [.ref (adr G 6 0), .int x1, .int (1 : Int32)] (c_L_checkOut (l := l) (rv := q4.1) (Mf := q4.2) hlt hC.2.2.2.2.2.2.2 e4) kx_L_checkOut gw_1014 gw_1013 ⟨Nat.le_of_ble_eq_true rfl, Nat.le_of_ble_eq_true rfl⟩ rfl (Nat.le_of_ble_eq_true rfl) dL_comesBack_33 ⟨by show _ ≤ 934; omega, by show _ ≤ 6 * 934; omega⟩ rfl ?_
    refine V_istore hC ([(4, .int q4.1), (2, .long q3.1), (0, .ref (adr G 6 0)), (1, .int x1)]) dL_comesBack_36 (by decide) rfl ?_
    refine V_aload_n hC dL_comesBack_38 rfl 2 rfl ?_
    refine V_iload_n hC dL_comesBack_39 rfl 3 rfl ?_
    obtain ⟨q5, e5, h⟩ := bind_some h
    refine V_cW hC hX [.ref (adr G 6 0), .int x1] (c_L_conflicts (l := l) (rv := q5.1) (Mf := q5.2) hlt hC.2.2.2.2.2.2.2 e5) kx_L_conflicts gw_1152 gw_1151 ⟨Nat.le_of_ble_eq_true rfl, Nat.le_of_ble_eq_true rfl⟩ rfl (Nat.le_of_ble_eq_true rfl) dL_comesBack_40 ⟨by show _ ≤ 934; omega, by show _ ≤ 6 * 934; omega⟩ rfl ?_
    refine V_istore hC ([(5, .int q5.1), (4, .int q4.1), (2, .long q3.1), (0, .ref (adr G 6 0)), (1, .int x1)]) dL_comesBack_43 (by decide) rfl ?_
    refine V_aload_n hC dL_comesBack_45 rfl 3 rfl ?_
    refine V_iload_n hC dL_comesBack_46 rfl 4 rfl ?_
    refine V_iconst hC (5 : Int32) dL_comesBack_47 (by decide) ?_
    obtain ⟨q6, e6, h⟩ := bind_some h
    refine V_cW hC hX [.ref (adr G 6 0), .int x1, .int (5 : Int32)] (c_L_checkOut (l := l) (rv := q6.1) (Mf := q6.2) hlt hC.2.2.2.2.2.2.2 e6) kx_L_checkOut gw_1014 gw_1013 ⟨Nat.le_of_ble_eq_true rfl, Nat.le_of_ble_eq_true rfl⟩ rfl (Nat.le_of_ble_eq_true rfl) dL_comesBack_48 ⟨by show _ ≤ 934; omega, by show _ ≤ 6 * 934; omega⟩ rfl ?_
    refine V_istore hC ([(6, .int q6.1), (5, .int q5.1), (4, .int q4.1), (2, .long q3.1), (0, .ref (adr G 6 0)), (1, .int x1)]) dL_comesBack_51 (by decide) rfl ?_
    refine V_aload_n hC dL_comesBack_53 rfl 4 rfl ?_
    refine V_iload_n hC dL_comesBack_54 rfl 5 rfl ?_
    refine V_iconst hC (0 : Int32) dL_comesBack_55 (by decide) ?_
    obtain ⟨q7, e7, h⟩ := bind_some h
    refine V_cW hC hX [.ref (adr G 6 0), .int x1, .int (0 : Int32)] (c_L_checkOut (l := l) (rv := q7.1) (Mf := q7.2) hlt hC.2.2.2.2.2.2.2 e7) kx_L_checkOut gw_1014 gw_1013 ⟨Nat.le_of_ble_eq_true rfl, Nat.le_of_ble_eq_true rfl⟩ rfl (Nat.le_of_ble_eq_true rfl) dL_comesBack_56 ⟨by show _ ≤ 934; omega, by show _ ≤ 6 * 934; omega⟩ rfl ?_
    refine V_istore hC ([(7, .int q7.1), (6, .int q6.1), (5, .int q5.1), (4, .int q4.1), (2, .long q3.1), (0, .ref (adr G 6 0)), (1, .int x1)]) dL_comesBack_59 (by decide) rfl ?_
    refine V_aload_n hC dL_comesBack_61 rfl 5 rfl ?_
    refine V_iload_n hC dL_comesBack_62 rfl 6 rfl ?_
    refine V_iconst hC (3 : Int32) dL_comesBack_63 (by decide) ?_
    obtain ⟨q8, e8, h⟩ := bind_some h
    refine V_cW hC hX [.ref (adr G 6 0), .int x1, .int (3 : Int32)] (c_L_checkOut (l := l) (rv := q8.1) (Mf := q8.2) hlt hC.2.2.2.2.2.2.2 e8) kx_L_checkOut gw_1014 gw_1013 ⟨Nat.le_of_ble_eq_true rfl, Nat.le_of_ble_eq_true rfl⟩ rfl (Nat.le_of_ble_eq_true rfl) dL_comesBack_64 ⟨by show _ ≤ 934; omega, by show _ ≤ 6 * 934; omega⟩ rfl ?_
    refine V_iconst hC (1 : Int32) dL_comesBack_67 (by decide) ?_
    refine V_icmp_ne hC 84 dL_comesBack_68 (by decide) (fun c9 => ?_) (fun c9 => ?_)
    · have h := ite_f c9 h
      refine V_sub [5, 6, 4, 3, 2, 1, 0] rfl ?_
      refine V_widen (k := u + 457) (n := 6 * (u + 457)) (by omega) (by omega) ?_
      exact b_L_comesBack_84 hC hr hlk hX hlt (by omega) h
    · have h := ite_t c9 h
      refine V_aload_n hC dL_comesBack_71 rfl 5 rfl ?_
      refine V_iload_n hC dL_comesBack_72 rfl 6 rfl ?_
      refine V_iconst hC (4 : Int32) dL_comesBack_73 (by decide) ?_
      obtain ⟨q43, e43, h⟩ := bind_some h
      refine V_cW hC hX [.ref (adr G 6 0), .int x1, .int (4 : Int32)] (c_L_checkOut (l := l) (rv := q43.1) (Mf := q43.2) hlt hC.2.2.2.2.2.2.2 e43) kx_L_checkOut gw_1014 gw_1013 ⟨Nat.le_of_ble_eq_true rfl, Nat.le_of_ble_eq_true rfl⟩ rfl (Nat.le_of_ble_eq_true rfl) dL_comesBack_74 ⟨by show _ ≤ 934; omega, by show _ ≤ 6 * 934; omega⟩ rfl ?_
      refine V_if_ne hC 84 dL_comesBack_77 (by decide) (fun c44 => ?_) (fun c44 => ?_)
      · have h := ite_f c44 h
        refine V_sub [5, 6, 4, 3, 2, 1, 0] rfl ?_
        refine V_widen (k := u + 458) (n := 6 * (u + 458)) (by omega) (by omega) ?_
        exact b_L_comesBack_84 hC hr hlk hX hlt (by omega) h
      · have h := ite_t c44 h
        refine V_iconst hC (1 : Int32) dL_comesBack_80 (by decide) ?_
        refine V_goto hC 85 dL_comesBack_81 (by decide) ?_
        refine V_sub [5, 6, 4, 3, 2, 1, 0] rfl ?_
        refine V_widen (k := u + 458) (n := 6 * (u + 458)) (by omega) (by omega) ?_
        exact b_L_comesBack_85 hC hr hlk hX hlt (by omega) h
  · have h := ite_f c2 h
    refine V_aload_n hC dL_comesBack_9 rfl 0 rfl ?_
    refine V_iload_n hC dL_comesBack_10 rfl 1 rfl ?_
    obtain ⟨q45, e45, h⟩ := bind_some h
    refine V_cW hC hX [.ref (adr G 6 0), .int x1] (c_L_conflicts (l := l) (rv := q45.1) (Mf := q45.2) hlt hC.2.2.2.2.2.2.2 e45) kx_L_conflicts gw_1152 gw_1151 ⟨Nat.le_of_ble_eq_true rfl, Nat.le_of_ble_eq_true rfl⟩ rfl (Nat.le_of_ble_eq_true rfl) dL_comesBack_11 ⟨by show _ ≤ 934; omega, by show _ ≤ 6 * 934; omega⟩ rfl ?_
    refine V_bipush hC ((-53) : Int32) dL_comesBack_14 (by decide) ?_
    refine V_icmp_ne hC 23 dL_comesBack_16 (by decide) (fun c46 => ?_) (fun c46 => ?_)
    · have h := ite_f c46 h
      refine V_iconst hC (0 : Int32) dL_comesBack_23 (by decide) ?_
      obtain ⟨rfl, rfl⟩ := Prod.mk.inj (Option.some.inj h)
      exact V_pzret hC hr hlk (by omega) (by omega) (Or.inl rfl) dL_comesBack_24
    · have h := ite_t c46 h
      refine V_iconst hC (1 : Int32) dL_comesBack_19 (by decide) ?_
      refine V_goto hC 24 dL_comesBack_20 (by decide) ?_
      obtain ⟨rfl, rfl⟩ := Prod.mk.inj (Option.some.inj h)
      exact V_pzret hC hr hlk (by omega) (by omega) (Or.inr rfl) dL_comesBack_24
set_option maxRecDepth 100000 in
set_option maxHeartbeats 8000000 in
theorem b_L_isPutBack_114 {u : Nat} {rv : Int32} {Mf : Mem} {x4 : Int32} {z0 : Int32} {M : Mem} (hC : Cx p s m args c cL_isPutBack RL 7 G) (hr : meth.sig.returnType = some .boolean) (hlk : meth.locks = false) (hX : XF G s) (hlt : l.stackTraces = false) (hu : u + (1) ≤ 5) (h : B_L_isPutBack_114 x4 z0 M = some (rv, Mf)) : V p l e (rmc 11 5) s m args below meth c 7 G (u) (6 * (u)) (MQ below (gQ G (some (.int rv)) Mf) args s 5 (6 * 5) (gA G)) 114 [(0, .ref (adr G 6 0)), (4, .int x4)] [.int z0] M := by
  refine V_istore hC ([(6, .int z0), (0, .ref (adr G 6 0)), (4, .int x4)]) dL_isPutBack_114 (by decide) rfl ?_
  refine V_iload hC dL_isPutBack_116 0 rfl ?_
  refine V_if_eq hC 141 dL_isPutBack_118 (by decide) (fun c8 => ?_) (fun c8 => ?_)
  · have h := ite_t c8 h
    refine V_iconst hC (0 : Int32) dL_isPutBack_141 (by decide) ?_
    obtain ⟨rfl, rfl⟩ := Prod.mk.inj (Option.some.inj h)
    exact V_pzret hC hr hlk (by omega) (by omega) (Or.inl rfl) dL_isPutBack_142
  · have h := ite_f c8 h
    refine V_aload_n hC dL_isPutBack_121 rfl 1 rfl ?_
    obtain ⟨q9, e9, h⟩ := bind_some h
    refine V_cW hC hX [.ref (adr G 6 0)] (c_L_undo (l := l) (rv := q9.1) (Mf := q9.2) hlt hC.2.2.2.2.2.2.2 e9) kx_L_undo gw_947 gw_946 ⟨Nat.le_of_ble_eq_true rfl, Nat.le_of_ble_eq_true rfl⟩ rfl (Nat.le_of_ble_eq_true rfl) dL_isPutBack_122 ⟨by show _ ≤ 5; omega, by show _ ≤ 6 * 5; omega⟩ rfl ?_
    refine V_if_lt hC 141 dL_isPutBack_125 (by decide) (fun c10 => ?_) (fun c10 => ?_)
    · have h := ite_t c10 h
      refine V_iconst hC (0 : Int32) dL_isPutBack_141 (by decide) ?_
      obtain ⟨rfl, rfl⟩ := Prod.mk.inj (Option.some.inj h)
      exact V_pzret hC hr hlk (by omega) (by omega) (Or.inl rfl) dL_isPutBack_142
    · have h := ite_f c10 h
      refine V_aload_n hC dL_isPutBack_128 rfl 1 rfl ?_
      refine V_cVr hC [] (c_X8_entries (l := l) hC.2.2.2.2.2.2.2 rfl) kd_X8_entries kv_X8_entries gw_968 (r_s0_0).o rfl ⟨Nat.le_of_ble_eq_true rfl, Nat.le_of_ble_eq_true rfl⟩ rfl (Nat.le_of_ble_eq_true rfl) dL_isPutBack_129 ⟨by show _ ≤ 5; omega, by show _ ≤ 6 * 5; omega⟩ rfl ?_
      refine V_iload hC dL_isPutBack_132 2 rfl ?_
      refine V_icmp_ne hC 141 dL_isPutBack_134 (by decide) (fun c11 => ?_) (fun c11 => ?_)
      · have h := ite_f c11 h
        refine V_iconst hC (0 : Int32) dL_isPutBack_141 (by decide) ?_
        obtain ⟨rfl, rfl⟩ := Prod.mk.inj (Option.some.inj h)
        exact V_pzret hC hr hlk (by omega) (by omega) (Or.inl rfl) dL_isPutBack_142
      · have h := ite_t c11 h
        refine V_iconst hC (1 : Int32) dL_isPutBack_137 (by decide) ?_
        refine V_goto hC 142 dL_isPutBack_138 (by decide) ?_
        obtain ⟨rfl, rfl⟩ := Prod.mk.inj (Option.some.inj h)
        exact V_pzret hC hr hlk (by omega) (by omega) (Or.inr rfl) dL_isPutBack_142
set_option maxRecDepth 100000 in
set_option maxHeartbeats 8000000 in
theorem b_L_isPutBack_113 {u : Nat} {rv : Int32} {Mf : Mem} {x4 : Int32} {M : Mem} (hC : Cx p s m args c cL_isPutBack RL 7 G) (hr : meth.sig.returnType = some .boolean) (hlk : meth.locks = false) (hX : XF G s) (hlt : l.stackTraces = false) (hu : u + (1) ≤ 5) (h : B_L_isPutBack_113 x4 M = some (rv, Mf)) : V p l e (rmc 11 5) s m args below meth c 7 G (u) (6 * (u)) (MQ below (gQ G (some (.int rv)) Mf) args s 5 (6 * 5) (gA G)) 113 [(0, .ref (adr G 6 0)), (4, .int x4)] [] M := by
  refine V_iconst hC (0 : Int32) dL_isPutBack_113 (by decide) ?_
  refine V_widen (k := u + 0) (n := 6 * (u + 0)) (by omega) (by omega) ?_
  exact b_L_isPutBack_114 hC hr hlk hX hlt (by omega) h
set_option maxRecDepth 100000 in
set_option maxHeartbeats 8000000 in
theorem b_L_isPutBack_109 {u : Nat} {rv : Int32} {Mf : Mem} {x4 : Int32} {M : Mem} (hC : Cx p s m args c cL_isPutBack RL 7 G) (hr : meth.sig.returnType = some .boolean) (hlk : meth.locks = false) (hX : XF G s) (hlt : l.stackTraces = false) (hu : u + (1) ≤ 5) (h : B_L_isPutBack_109 x4 M = some (rv, Mf)) : V p l e (rmc 11 5) s m args below meth c 7 G (u) (6 * (u)) (MQ below (gQ G (some (.int rv)) Mf) args s 5 (6 * 5) (gA G)) 109 [(0, .ref (adr G 6 0)), (4, .int x4)] [] M := by
  refine V_iconst hC (1 : Int32) dL_isPutBack_109 (by decide) ?_
  refine V_goto hC 114 dL_isPutBack_110 (by decide) ?_
  refine V_widen (k := u + 0) (n := 6 * (u + 0)) (by omega) (by omega) ?_
  exact b_L_isPutBack_114 hC hr hlk hX hlt (by omega) h
set_option maxRecDepth 100000 in
set_option maxHeartbeats 8000000 in
theorem c_L_isPutBack {l : Launch} {G : Geo} {x1 : Int32} {x2 : Int32} {rv : Int32} {Mf : Mem} {M : Mem} (hlt : l.stackTraces = false) (hG : gD G) (h : f_L_isPutBack x1 x2 M = some (rv, Mf)) : Met l yL_isPutBack (.code yL_isPutBack cL_isPutBack 7 (some .boolean) :: GL) (rmc 11 5) (gPx G [.ref (adr G 6 0), .int x1, .int x2] M) (gQ G (some (.int rv)) Mf) 5 (6 * 5) (gA G) := by
  refine PMet_of (own := RL) (L := [(0, .ref (adr G 6 0)), (1, .int x1), (2, .int x2)]) hG (by decide +kernel) rfl (Nat.le_of_ble_eq_true rfl) rfl ?_
  intro p e s m args below meth c hC hX hr hlk
  obtain ⟨u, eu⟩ : ∃ u : Nat, u = 0 := ⟨0, rfl⟩
  have hu : u + 5 ≤ 5 := by omega
  refine V_u (u := u) eu ?_
  refine V_aload_n hC dL_isPutBack_0 rfl 0 rfl ?_
  refine V_iload_n hC dL_isPutBack_1 rfl 1 rfl ?_
  refine V_iconst hC (0 : Int32) dL_isPutBack_2 (by decide) ?_
  obtain ⟨q1, e1, h⟩ := bind_some h
  refine V_cW hC hX [.ref (adr G 6 0), .int x1, .int (0 : Int32)] (c_L_section (l := l) (rv := q1.1) (Mf := q1.2) hlt hC.2.2.2.2.2.2.2 e1) kx_L_section gw_977 gw_976 ⟨Nat.le_of_ble_eq_true rfl, Nat.le_of_ble_eq_true rfl⟩ rfl (Nat.le_of_ble_eq_true rfl) dL_isPutBack_3 ⟨by show _ ≤ 5; omega, by show _ ≤ 6 * 5; omega⟩ rfl ?_
  refine V_iconst hC ((-1) : Int32) dL_isPutBack_6 (by decide) ?_
  refine V_icmp_ge hC 27 dL_isPutBack_7 (by decide) (fun c2 => ?_) (fun c2 => ?_)
  · have h := ite_t c2 h
    refine V_aload_n hC dL_isPutBack_27 rfl 0 rfl ?_
    refine V_iload_n hC dL_isPutBack_28 rfl 1 rfl ?_
    refine V_iconst hC (2 : Int32) dL_isPutBack_29 (by decide) ?_
    refine V_iload_n hC dL_isPutBack_30 rfl 2 rfl ?_
    obtain ⟨q3, e3, h⟩ := bind_some h
    refine V_cW hC hX [.ref (adr G 6 0), .int x1, .int (2 : Int32), .int x2] (c_L_lineAt (l := l) (rv := q3.1) (Mf := q3.2) hlt hC.2.2.2.2.2.2.2 e3) kx_L_lineAt gw_1123 gw_1122 ⟨Nat.le_of_ble_eq_true rfl, Nat.le_of_ble_eq_true rfl⟩ rfl (Nat.le_of_ble_eq_true rfl) dL_isPutBack_31 ⟨by show _ ≤ 5; omega, by show _ ≤ 6 * 5; omega⟩ rfl ?_
    refine V_istore_n hC ([(3, .int q3.1), (0, .ref (adr G 6 0)), (1, .int x1), (2, .int x2)]) dL_isPutBack_34 rfl (by decide) rfl ?_
    refine V_aload_n hC dL_isPutBack_35 rfl 1 rfl ?_
    refine V_cVr hC [] (c_X8_entries (l := l) hC.2.2.2.2.2.2.2 rfl) kd_X8_entries kv_X8_entries gw_968 (r_s0_0).o rfl ⟨Nat.le_of_ble_eq_true rfl, Nat.le_of_ble_eq_true rfl⟩ rfl (Nat.le_of_ble_eq_true rfl) dL_isPutBack_36 ⟨by show _ ≤ 5; omega, by show _ ≤ 6 * 5; omega⟩ rfl ?_
    refine V_istore hC ([(4, .int (f_X8_entries q3.2)), (3, .int q3.1), (0, .ref (adr G 6 0)), (1, .int x1), (2, .int x2)]) dL_isPutBack_39 (by decide) rfl ?_
    refine V_aload_n hC dL_isPutBack_41 rfl 2 rfl ?_
    refine V_iload_n hC dL_isPutBack_42 rfl 3 rfl ?_
    refine V_iload_n hC dL_isPutBack_43 rfl 4 rfl ?_
    obtain ⟨q4, e4, h⟩ := bind_some h
    refine V_cW hC hX [.ref (adr G 6 0), .int x1, .int x2] (c_L_revert (l := l) (rv := q4.1) (Mf := q4.2) hlt hC.2.2.2.2.2.2.2 e4) kx_L_revert gw_858 gw_857 ⟨Nat.le_of_ble_eq_true rfl, Nat.le_of_ble_eq_true rfl⟩ rfl (Nat.le_of_ble_eq_true rfl) dL_isPutBack_44 ⟨by show _ ≤ 5; omega, by show _ ≤ 6 * 5; omega⟩ rfl ?_
    refine V_istore hC ([(5, .int q4.1), (4, .int (f_X8_entries q3.2)), (3, .int q3.1), (0, .ref (adr G 6 0)), (1, .int x1), (2, .int x2)]) dL_isPutBack_47 (by decide) rfl ?_
    refine V_iload hC dL_isPutBack_49 0 rfl ?_
    refine V_if_ge hC 76 dL_isPutBack_51 (by decide) (fun c5 => ?_) (fun c5 => ?_)
    · have h := ite_t c5 h
      refine V_aload_n hC dL_isPutBack_76 rfl 3 rfl ?_
      refine V_iload_n hC dL_isPutBack_77 rfl 4 rfl ?_
      refine V_iconst hC (2 : Int32) dL_isPutBack_78 (by decide) ?_
      obtain ⟨q6, e6, h⟩ := bind_some h
      refine V_cW hC hX [.ref (adr G 6 0), .int x1, .int (2 : Int32)] (c_L_line (l := l) (rv := q6.1) (Mf := q6.2) hlt hC.2.2.2.2.2.2.2 e6) kx_L_line gw_993 gw_992 ⟨Nat.le_of_ble_eq_true rfl, Nat.le_of_ble_eq_true rfl⟩ rfl (Nat.le_of_ble_eq_true rfl) dL_isPutBack_79 ⟨by show _ ≤ 5; omega, by show _ ≤ 6 * 5; omega⟩ rfl ?_
      refine V_iload_n hC dL_isPutBack_82 rfl 2 rfl ?_
      refine V_icmp_ne hC 113 dL_isPutBack_83 (by decide) (fun c7 => ?_) (fun c7 => ?_)
      · have h := ite_f c7 h
        refine V_sub [3, 1] rfl ?_
        refine V_widen (k := u + 4) (n := 6 * (u + 4)) (by omega) (by omega) ?_
        exact b_L_isPutBack_113 hC hr hlk hX hlt (by omega) h
      · have h := ite_t c7 h
        refine V_iload hC dL_isPutBack_86 1 rfl ?_
        refine V_iload hC dL_isPutBack_88 0 rfl ?_
        refine V_iadd hC dL_isPutBack_90 ?_
        refine V_sipush hC (150 : Int32) dL_isPutBack_91 (by decide) ?_
        refine V_icmp_gt hC 109 dL_isPutBack_94 (by decide) (fun c12 => ?_) (fun c12 => ?_)
        · have h := ite_t c12 h
          refine V_sub [3, 1] rfl ?_
          refine V_widen (k := u + 4) (n := 6 * (u + 4)) (by omega) (by omega) ?_
          exact b_L_isPutBack_109 hC hr hlk hX hlt (by omega) h
        · have h := ite_f c12 h
          refine V_aload_n hC dL_isPutBack_97 rfl 3 rfl ?_
          refine V_cVr hC [] (c_X8_entries (l := l) hC.2.2.2.2.2.2.2 rfl) kd_X8_entries kv_X8_entries gw_968 (r_s0_0).o rfl ⟨Nat.le_of_ble_eq_true rfl, Nat.le_of_ble_eq_true rfl⟩ rfl (Nat.le_of_ble_eq_true rfl) dL_isPutBack_98 ⟨by show _ ≤ 5; omega, by show _ ≤ 6 * 5; omega⟩ rfl ?_
          refine V_iload hC dL_isPutBack_101 1 rfl ?_
          refine V_iload hC dL_isPutBack_103 0 rfl ?_
          refine V_iadd hC dL_isPutBack_105 ?_
          refine V_icmp_ne hC 113 dL_isPutBack_106 (by decide) (fun c13 => ?_) (fun c13 => ?_)
          · have h := ite_f c13 h
            refine V_sub [3, 1] rfl ?_
            refine V_widen (k := u + 4) (n := 6 * (u + 4)) (by omega) (by omega) ?_
            exact b_L_isPutBack_113 hC hr hlk hX hlt (by omega) h
          · have h := ite_t c13 h
            refine V_sub [3, 1] rfl ?_
            refine V_widen (k := u + 4) (n := 6 * (u + 4)) (by omega) (by omega) ?_
            exact b_L_isPutBack_109 hC hr hlk hX hlt (by omega) h
    · have h := ite_f c5 h
      refine V_iload hC dL_isPutBack_54 0 rfl ?_
      refine V_bipush hC ((-52) : Int32) dL_isPutBack_56 (by decide) ?_
      refine V_icmp_ne hC 74 dL_isPutBack_58 (by decide) (fun c14 => ?_) (fun c14 => ?_)
      · have h := ite_f c14 h
        refine V_iconst hC (0 : Int32) dL_isPutBack_74 (by decide) ?_
        obtain ⟨rfl, rfl⟩ := Prod.mk.inj (Option.some.inj h)
        exact V_pzret hC hr hlk (by omega) (by omega) (Or.inl rfl) dL_isPutBack_75
      · have h := ite_t c14 h
        refine V_aload_n hC dL_isPutBack_61 rfl 3 rfl ?_
        refine V_cVr hC [] (c_X8_entries (l := l) hC.2.2.2.2.2.2.2 rfl) kd_X8_entries kv_X8_entries gw_968 (r_s0_0).o rfl ⟨Nat.le_of_ble_eq_true rfl, Nat.le_of_ble_eq_true rfl⟩ rfl (Nat.le_of_ble_eq_true rfl) dL_isPutBack_62 ⟨by show _ ≤ 5; omega, by show _ ≤ 6 * 5; omega⟩ rfl ?_
        refine V_iload hC dL_isPutBack_65 1 rfl ?_
        refine V_icmp_ne hC 74 dL_isPutBack_67 (by decide) (fun c15 => ?_) (fun c15 => ?_)
        · have h := ite_f c15 h
          refine V_iconst hC (0 : Int32) dL_isPutBack_74 (by decide) ?_
          obtain ⟨rfl, rfl⟩ := Prod.mk.inj (Option.some.inj h)
          exact V_pzret hC hr hlk (by omega) (by omega) (Or.inl rfl) dL_isPutBack_75
        · have h := ite_t c15 h
          refine V_iconst hC (1 : Int32) dL_isPutBack_70 (by decide) ?_
          refine V_goto hC 75 dL_isPutBack_71 (by decide) ?_
          obtain ⟨rfl, rfl⟩ := Prod.mk.inj (Option.some.inj h)
          exact V_pzret hC hr hlk (by omega) (by omega) (Or.inr rfl) dL_isPutBack_75
  · have h := ite_f c2 h
    refine V_aload_n hC dL_isPutBack_10 rfl 0 rfl ?_
    refine V_iload_n hC dL_isPutBack_11 rfl 1 rfl ?_
    refine V_iconst hC (0 : Int32) dL_isPutBack_12 (by decide) ?_
    obtain ⟨q16, e16, h⟩ := bind_some h
    refine V_cW hC hX [.ref (adr G 6 0), .int x1, .int (0 : Int32)] (c_L_revert (l := l) (rv := q16.1) (Mf := q16.2) hlt hC.2.2.2.2.2.2.2 e16) kx_L_revert gw_858 gw_857 ⟨Nat.le_of_ble_eq_true rfl, Nat.le_of_ble_eq_true rfl⟩ rfl (Nat.le_of_ble_eq_true rfl) dL_isPutBack_13 ⟨by show _ ≤ 5; omega, by show _ ≤ 6 * 5; omega⟩ rfl ?_
    refine V_bipush hC ((-53) : Int32) dL_isPutBack_16 (by decide) ?_
    refine V_icmp_ne hC 25 dL_isPutBack_18 (by decide) (fun c17 => ?_) (fun c17 => ?_)
    · have h := ite_f c17 h
      refine V_iconst hC (0 : Int32) dL_isPutBack_25 (by decide) ?_
      obtain ⟨rfl, rfl⟩ := Prod.mk.inj (Option.some.inj h)
      exact V_pzret hC hr hlk (by omega) (by omega) (Or.inl rfl) dL_isPutBack_26
    · have h := ite_t c17 h
      refine V_iconst hC (1 : Int32) dL_isPutBack_21 (by decide) ?_
      refine V_goto hC 26 dL_isPutBack_22 (by decide) ?_
      obtain ⟨rfl, rfl⟩ := Prod.mk.inj (Option.some.inj h)
      exact V_pzret hC hr hlk (by omega) (by omega) (Or.inr rfl) dL_isPutBack_26
set_option maxRecDepth 100000 in
set_option maxHeartbeats 8000000 in
theorem b_L_types_137 {u : Nat} {rv : Int32} {Mf : Mem} {x7 : Int32} {M : Mem} (hC : Cx p s m args c cL_types RL 10 G) (hr : meth.sig.returnType = some .boolean) (hlk : meth.locks = false) (hX : XF G s) (hlt : l.stackTraces = false) (hu : u + (1) ≤ 26) (h : B_L_types_137 x7 M = some (rv, Mf)) : V p l e (rmc 11 26) s m args below meth c 10 G (u) (6 * (u)) (MQ below (gQ G (some (.int rv)) Mf) args s 26 (6 * 26) (gA G)) 137 [(0, .ref (adr G 6 0)), (7, .int x7)] [] M := by
  refine V_iload hC dL_types_137 1 rfl ?_
  refine V_if_eq hC 155 dL_types_139 (by decide) (fun c4 => ?_) (fun c4 => ?_)
  · have h := ite_t c4 h
    refine V_iconst hC (0 : Int32) dL_types_155 (by decide) ?_
    obtain ⟨rfl, rfl⟩ := Prod.mk.inj (Option.some.inj h)
    exact V_pzret hC hr hlk (by omega) (by omega) (Or.inl rfl) dL_types_156
  · have h := ite_f c4 h
    refine V_aload_n hC dL_types_142 rfl 0 rfl ?_
    refine V_bipush hC (59 : Int32) dL_types_143 (by decide) ?_
    obtain ⟨q5, e5, h⟩ := bind_some h
    refine V_cW hC hX [.ref (adr G 6 0), .int (59 : Int32)] (c_L_append (l := l) (rv := q5.1) (Mf := q5.2) hlt hC.2.2.2.2.2.2.2 e5) kx_L_append gw_1134 gw_1133 ⟨Nat.le_of_ble_eq_true rfl, Nat.le_of_ble_eq_true rfl⟩ rfl (Nat.le_of_ble_eq_true rfl) dL_types_145 ⟨by show _ ≤ 26; omega, by show _ ≤ 6 * 26; omega⟩ rfl ?_
    refine V_if_le hC 155 dL_types_148 (by decide) (fun c6 => ?_) (fun c6 => ?_)
    · have h := ite_t c6 h
      refine V_iconst hC (0 : Int32) dL_types_155 (by decide) ?_
      obtain ⟨rfl, rfl⟩ := Prod.mk.inj (Option.some.inj h)
      exact V_pzret hC hr hlk (by omega) (by omega) (Or.inl rfl) dL_types_156
    · have h := ite_f c6 h
      refine V_iconst hC (1 : Int32) dL_types_151 (by decide) ?_
      refine V_goto hC 156 dL_types_152 (by decide) ?_
      obtain ⟨rfl, rfl⟩ := Prod.mk.inj (Option.some.inj h)
      exact V_pzret hC hr hlk (by omega) (by omega) (Or.inr rfl) dL_types_156
set_option maxRecDepth 100000 in
set_option maxHeartbeats 8000000 in
theorem b_L_types_129 {u : Nat} {v18 : Nat} {rv : Int32} {Mf : Mem} {k18 : Int32 → Int32 → Mem → Option (Int32 × Mem)} {x2 : Int32} {x3 : Int32} {x4 : Int32} {x5 : Int32} {x6 : Int32} {x8 : Int32} {z0 : Int32} {M : Mem} (hC : Cx p s m args c cL_types RL 10 G) (hr : meth.sig.returnType = some .boolean) (hlk : meth.locks = false) (hX : XF G s) (hlt : l.stackTraces = false) (hk18 : ∀ (u : Nat) (x7 : Int32) (x8 : Int32) (M : Mem), u + v18 ≤ 26 → k18 x7 x8 M = some (rv, Mf) → V p l e (rmc 11 26) s m args below meth c 10 G (u) (6 * (u)) (MQ below (gQ G (some (.int rv)) Mf) args s 26 (6 * 26) (gA G)) 18 [(0, .ref (adr G 6 0)), (2, .int x2), (3, .int x3), (4, .int x4), (5, .int x5), (6, .int x6), (7, .int x7), (8, .int x8)] [] M) (hv18 : 1 ≤ v18) (hu : u + (0 + v18) ≤ 26) (h : B_L_types_129 k18 x2 x3 x4 x5 x6 x8 z0 M = some (rv, Mf)) : V p l e (rmc 11 26) s m args below meth c 10 G (u) (6 * (u)) (MQ below (gQ G (some (.int rv)) Mf) args s 26 (6 * 26) (gA G)) 129 [(0, .ref (adr G 6 0)), (2, .int x2), (3, .int x3), (4, .int x4), (5, .int x5), (6, .int x6), (8, .int x8)] [.int z0] M := by
  refine V_istore hC ([(7, .int z0), (0, .ref (adr G 6 0)), (2, .int x2), (3, .int x3), (4, .int x4), (5, .int x5), (6, .int x6), (8, .int x8)]) dL_types_129 (by decide) rfl ?_
  refine V_iinc hC (x8 + 1) ([(8, .int (x8 + 1)), (7, .int z0), (0, .ref (adr G 6 0)), (2, .int x2), (3, .int x3), (4, .int x4), (5, .int x5), (6, .int x6)]) dL_types_131 7 rfl rfl (by decide) rfl ?_
  refine V_goto hC 18 dL_types_134 (by decide) ?_
  refine V_sub [2, 3, 4, 5, 6, 7, 1, 0] rfl ?_
  refine V_widen (k := u + 0) (n := 6 * (u + 0)) (by omega) (by omega) ?_
  exact hk18 _ _ _ _ (by omega) h
set_option maxRecDepth 100000 in
set_option maxHeartbeats 8000000 in
theorem b_L_types_128 {u : Nat} {v18 : Nat} {rv : Int32} {Mf : Mem} {k18 : Int32 → Int32 → Mem → Option (Int32 × Mem)} {x2 : Int32} {x3 : Int32} {x4 : Int32} {x5 : Int32} {x6 : Int32} {x8 : Int32} {M : Mem} (hC : Cx p s m args c cL_types RL 10 G) (hr : meth.sig.returnType = some .boolean) (hlk : meth.locks = false) (hX : XF G s) (hlt : l.stackTraces = false) (hk18 : ∀ (u : Nat) (x7 : Int32) (x8 : Int32) (M : Mem), u + v18 ≤ 26 → k18 x7 x8 M = some (rv, Mf) → V p l e (rmc 11 26) s m args below meth c 10 G (u) (6 * (u)) (MQ below (gQ G (some (.int rv)) Mf) args s 26 (6 * 26) (gA G)) 18 [(0, .ref (adr G 6 0)), (2, .int x2), (3, .int x3), (4, .int x4), (5, .int x5), (6, .int x6), (7, .int x7), (8, .int x8)] [] M) (hv18 : 1 ≤ v18) (hu : u + (0 + v18) ≤ 26) (h : B_L_types_128 k18 x2 x3 x4 x5 x6 x8 M = some (rv, Mf)) : V p l e (rmc 11 26) s m args below meth c 10 G (u) (6 * (u)) (MQ below (gQ G (some (.int rv)) Mf) args s 26 (6 * 26) (gA G)) 128 [(0, .ref (adr G 6 0)), (2, .int x2), (3, .int x3), (4, .int x4), (5, .int x5), (6, .int x6), (8, .int x8)] [] M := by
  refine V_iconst hC (0 : Int32) dL_types_128 (by decide) ?_
  refine V_widen (k := u + 0) (n := 6 * (u + 0)) (by omega) (by omega) ?_
  exact b_L_types_129 hC hr hlk hX hlt hk18 hv18 (by omega) h
set_option maxRecDepth 100000 in
set_option maxHeartbeats 8000000 in
theorem b_L_types_62 {u : Nat} {v18 : Nat} {rv : Int32} {Mf : Mem} {k18 : Int32 → Int32 → Mem → Option (Int32 × Mem)} {x2 : Int32} {x3 : Int32} {x4 : Int32} {x5 : Int32} {x6 : Int32} {x8 : Int32} {z0 : Int32} {M : Mem} (hC : Cx p s m args c cL_types RL 10 G) (hr : meth.sig.returnType = some .boolean) (hlk : meth.locks = false) (hX : XF G s) (hlt : l.stackTraces = false) (hk18 : ∀ (u : Nat) (x7 : Int32) (x8 : Int32) (M : Mem), u + v18 ≤ 26 → k18 x7 x8 M = some (rv, Mf) → V p l e (rmc 11 26) s m args below meth c 10 G (u) (6 * (u)) (MQ below (gQ G (some (.int rv)) Mf) args s 26 (6 * 26) (gA G)) 18 [(0, .ref (adr G 6 0)), (2, .int x2), (3, .int x3), (4, .int x4), (5, .int x5), (6, .int x6), (7, .int x7), (8, .int x8)] [] M) (hv18 : 1 ≤ v18) (hu : u + (4 + v18) ≤ 26) (h : B_L_types_62 k18 x2 x3 x4 x5 x6 x8 z0 M = some (rv, Mf)) : V p l e (rmc 11 26) s m args below meth c 10 G (u) (6 * (u)) (MQ below (gQ G (some (.int rv)) Mf) args s 26 (6 * 26) (gA G)) 62 [(0, .ref (adr G 6 0)), (2, .int x2), (3, .int x3), (4, .int x4), (5, .int x5), (6, .int x6), (8, .int x8)] [.int z0] M := by
  refine V_istore hC ([(9, .int z0), (0, .ref (adr G 6 0)), (2, .int x2), (3, .int x3), (4, .int x4), (5, .int x5), (6, .int x6), (8, .int x8)]) dL_types_62 (by decide) rfl ?_
  refine V_aload_n hC dL_types_64 rfl 1 rfl ?_
  refine V_bipush hC (32 : Int32) dL_types_65 (by decide) ?_
  obtain ⟨q11, e11, h⟩ := bind_some h
  refine V_cW hC hX [.ref (adr G 6 0), .int (32 : Int32)] (c_L_append (l := l) (rv := q11.1) (Mf := q11.2) hlt hC.2.2.2.2.2.2.2 e11) kx_L_append gw_1134 gw_1133 ⟨Nat.le_of_ble_eq_true rfl, Nat.le_of_ble_eq_true rfl⟩ rfl (Nat.le_of_ble_eq_true rfl) dL_types_67 ⟨by show _ ≤ 26; omega, by show _ ≤ 6 * 26; omega⟩ rfl ?_
  refine V_if_le hC 128 dL_types_70 (by decide) (fun c12 => ?_) (fun c12 => ?_)
  · have h := ite_t c12 h
    refine V_sub [1, 2, 3, 4, 5, 6, 7] rfl ?_
    refine V_widen (k := u + 1) (n := 6 * (u + 1)) (by omega) (by omega) ?_
    exact b_L_types_128 hC hr hlk hX hlt hk18 hv18 (by omega) h
  · have h := ite_f c12 h
    refine V_aload_n hC dL_types_73 rfl 1 rfl ?_
    refine V_bipush hC (48 : Int32) dL_types_74 (by decide) ?_
    refine V_iload hC dL_types_76 0 rfl ?_
    refine V_bipush hC (100 : Int32) dL_types_78 (by decide) ?_
    refine V_idiv hC dL_types_80 (by decide) ?_
    refine V_bipush hC (10 : Int32) dL_types_81 (by decide) ?_
    refine V_irem hC dL_types_83 (by decide) ?_
    refine V_iadd hC dL_types_84 ?_
    obtain ⟨q13, e13, h⟩ := bind_some h
    refine V_cW hC hX [.ref (adr G 6 0), .int ((48 : Int32) + (ireM (z0 / (100 : Int32)) (10 : Int32)))] (c_L_append (l := l) (rv := q13.1) (Mf := q13.2) hlt hC.2.2.2.2.2.2.2 e13) kx_L_append gw_1134 gw_1133 ⟨Nat.le_of_ble_eq_true rfl, Nat.le_of_ble_eq_true rfl⟩ rfl (Nat.le_of_ble_eq_true rfl) dL_types_85 ⟨by show _ ≤ 26; omega, by show _ ≤ 6 * 26; omega⟩ rfl ?_
    refine V_if_le hC 128 dL_types_88 (by decide) (fun c14 => ?_) (fun c14 => ?_)
    · have h := ite_t c14 h
      refine V_sub [1, 2, 3, 4, 5, 6, 7] rfl ?_
      refine V_widen (k := u + 2) (n := 6 * (u + 2)) (by omega) (by omega) ?_
      exact b_L_types_128 hC hr hlk hX hlt hk18 hv18 (by omega) h
    · have h := ite_f c14 h
      refine V_aload_n hC dL_types_91 rfl 1 rfl ?_
      refine V_bipush hC (48 : Int32) dL_types_92 (by decide) ?_
      refine V_iload hC dL_types_94 0 rfl ?_
      refine V_bipush hC (10 : Int32) dL_types_96 (by decide) ?_
      refine V_idiv hC dL_types_98 (by decide) ?_
      refine V_bipush hC (10 : Int32) dL_types_99 (by decide) ?_
      refine V_irem hC dL_types_101 (by decide) ?_
      refine V_iadd hC dL_types_102 ?_
      obtain ⟨q15, e15, h⟩ := bind_some h
      refine V_cW hC hX [.ref (adr G 6 0), .int ((48 : Int32) + (ireM (z0 / (10 : Int32)) (10 : Int32)))] (c_L_append (l := l) (rv := q15.1) (Mf := q15.2) hlt hC.2.2.2.2.2.2.2 e15) kx_L_append gw_1134 gw_1133 ⟨Nat.le_of_ble_eq_true rfl, Nat.le_of_ble_eq_true rfl⟩ rfl (Nat.le_of_ble_eq_true rfl) dL_types_103 ⟨by show _ ≤ 26; omega, by show _ ≤ 6 * 26; omega⟩ rfl ?_
      refine V_if_le hC 128 dL_types_106 (by decide) (fun c16 => ?_) (fun c16 => ?_)
      · have h := ite_t c16 h
        refine V_sub [1, 2, 3, 4, 5, 6, 7] rfl ?_
        refine V_widen (k := u + 3) (n := 6 * (u + 3)) (by omega) (by omega) ?_
        exact b_L_types_128 hC hr hlk hX hlt hk18 hv18 (by omega) h
      · have h := ite_f c16 h
        refine V_aload_n hC dL_types_109 rfl 1 rfl ?_
        refine V_bipush hC (48 : Int32) dL_types_110 (by decide) ?_
        refine V_iload hC dL_types_112 0 rfl ?_
        refine V_bipush hC (10 : Int32) dL_types_114 (by decide) ?_
        refine V_irem hC dL_types_116 (by decide) ?_
        refine V_iadd hC dL_types_117 ?_
        obtain ⟨q17, e17, h⟩ := bind_some h
        refine V_cW hC hX [.ref (adr G 6 0), .int ((48 : Int32) + (ireM z0 (10 : Int32)))] (c_L_append (l := l) (rv := q17.1) (Mf := q17.2) hlt hC.2.2.2.2.2.2.2 e17) kx_L_append gw_1134 gw_1133 ⟨Nat.le_of_ble_eq_true rfl, Nat.le_of_ble_eq_true rfl⟩ rfl (Nat.le_of_ble_eq_true rfl) dL_types_118 ⟨by show _ ≤ 26; omega, by show _ ≤ 6 * 26; omega⟩ rfl ?_
        refine V_if_le hC 128 dL_types_121 (by decide) (fun c18 => ?_) (fun c18 => ?_)
        · have h := ite_t c18 h
          refine V_sub [1, 2, 3, 4, 5, 6, 7] rfl ?_
          refine V_widen (k := u + 4) (n := 6 * (u + 4)) (by omega) (by omega) ?_
          exact b_L_types_128 hC hr hlk hX hlt hk18 hv18 (by omega) h
        · have h := ite_f c18 h
          refine V_iconst hC (1 : Int32) dL_types_124 (by decide) ?_
          refine V_goto hC 129 dL_types_125 (by decide) ?_
          refine V_sub [1, 2, 3, 4, 5, 6, 7] rfl ?_
          refine V_widen (k := u + 4) (n := 6 * (u + 4)) (by omega) (by omega) ?_
          exact b_L_types_129 hC hr hlk hX hlt hk18 hv18 (by omega) h
set_option maxRecDepth 100000 in
set_option maxHeartbeats 8000000 in
theorem l_L_types_18 {rv : Int32} {Mf : Mem} {x2 : Int32} {x3 : Int32} {x4 : Int32} {x5 : Int32} {x6 : Int32} (hC : Cx p s m args c cL_types RL 10 G) (hr : meth.sig.returnType = some .boolean) (hlk : meth.locks = false) (hX : XF G s) (hlt : l.stackTraces = false) : ∀ (n : Nat) {u : Nat} {x7 : Int32} {x8 : Int32} {M : Mem} (hu : u + (4 * n + (1)) ≤ 26) (h : L_L_types_18 x2 x3 x4 x5 x6 n x7 x8 M = some (rv, Mf)), V p l e (rmc 11 26) s m args below meth c 10 G (u) (6 * (u)) (MQ below (gQ G (some (.int rv)) Mf) args s 26 (6 * 26) (gA G)) 18 [(0, .ref (adr G 6 0)), (2, .int x2), (3, .int x3), (4, .int x4), (5, .int x5), (6, .int x6), (7, .int x7), (8, .int x8)] [] M := by
  intro n
  induction n with
  | zero => intro u x7 x8 M hu h; cases h
  | succ n ih =>
    intro u x7 x8 M hu h
    rw [Nat.mul_succ] at hu
    obtain ⟨v18, ev18⟩ : ∃ v, v = 4 * n + (1) := ⟨_, rfl⟩
    have hv18 : 1 ≤ v18 := by rw [ev18]; exact Nat.le_add_left _ _
    have hk18 : ∀ (u : Nat) (x7 : Int32) (x8 : Int32) (M : Mem), u + v18 ≤ 26 → L_L_types_18 x2 x3 x4 x5 x6 n x7 x8 M = some (rv, Mf) → V p l e (rmc 11 26) s m args below meth c 10 G (u) (6 * (u)) (MQ below (gQ G (some (.int rv)) Mf) args s 26 (6 * 26) (gA G)) 18 [(0, .ref (adr G 6 0)), (2, .int x2), (3, .int x3), (4, .int x4), (5, .int x5), (6, .int x6), (7, .int x7), (8, .int x8)] [] M := fun _ _ _ _ hw z => ih (by rw [← ev18]; exact hw) z
    have hu : u + 4 + v18 ≤ 26 := bud hu ev18
    clear ih ev18
    refine V_iload hC dL_types_18 7 rfl ?_
    refine V_iload_n hC dL_types_20 rfl 1 rfl ?_
    refine V_icmp_ge hC 137 dL_types_21 (by decide) (fun c3 => ?_) (fun c3 => ?_)
    · have h := ite_t c3 h
      refine V_sub [0, 6] rfl ?_
      refine V_widen (k := u + 0) (n := 6 * (u + 0)) (by omega) (by omega) ?_
      exact b_L_types_137 hC hr hlk hX hlt (by omega) h
    · have h := ite_f c3 h
      refine V_iload hC dL_types_24 6 rfl ?_
      refine V_if_eq hC 137 dL_types_26 (by decide) (fun c7 => ?_) (fun c7 => ?_)
      · have h := ite_t c7 h
        refine V_sub [0, 6] rfl ?_
        refine V_widen (k := u + 0) (n := 6 * (u + 0)) (by omega) (by omega) ?_
        exact b_L_types_137 hC hr hlk hX hlt (by omega) h
      · have h := ite_f c7 h
        refine V_iload hC dL_types_29 7 rfl ?_
        refine V_if_ne hC 38 dL_types_31 (by decide) (fun c8 => ?_) (fun c8 => ?_)
        · have h := ite_f c8 h
          refine V_iload hC dL_types_38 7 rfl ?_
          refine V_iconst hC (1 : Int32) dL_types_40 (by decide) ?_
          refine V_icmp_ne hC 49 dL_types_41 (by decide) (fun c9 => ?_) (fun c9 => ?_)
          · have h := ite_f c9 h
            refine V_iload hC dL_types_49 7 rfl ?_
            refine V_iconst hC (2 : Int32) dL_types_51 (by decide) ?_
            refine V_icmp_ne hC 60 dL_types_52 (by decide) (fun c10 => ?_) (fun c10 => ?_)
            · have h := ite_f c10 h
              refine V_iload hC dL_types_60 5 rfl ?_
              refine V_sub [0, 1, 2, 3, 4, 5, 7] rfl ?_
              refine V_widen (k := u + 0) (n := 6 * (u + 0)) (by omega) (by omega) ?_
              exact b_L_types_62 hC hr hlk hX hlt hk18 hv18 (by omega) h
            · have h := ite_t c10 h
              refine V_iload hC dL_types_55 4 rfl ?_
              refine V_goto hC 62 dL_types_57 (by decide) ?_
              refine V_sub [0, 1, 2, 3, 4, 5, 7] rfl ?_
              refine V_widen (k := u + 0) (n := 6 * (u + 0)) (by omega) (by omega) ?_
              exact b_L_types_62 hC hr hlk hX hlt hk18 hv18 (by omega) h
          · have h := ite_t c9 h
            refine V_iload hC dL_types_44 3 rfl ?_
            refine V_goto hC 62 dL_types_46 (by decide) ?_
            refine V_sub [0, 1, 2, 3, 4, 5, 7] rfl ?_
            refine V_widen (k := u + 0) (n := 6 * (u + 0)) (by omega) (by omega) ?_
            exact b_L_types_62 hC hr hlk hX hlt hk18 hv18 (by omega) h
        · have h := ite_t c8 h
          refine V_iload_n hC dL_types_34 rfl 2 rfl ?_
          refine V_goto hC 62 dL_types_35 (by decide) ?_
          refine V_sub [0, 1, 2, 3, 4, 5, 7] rfl ?_
          refine V_widen (k := u + 0) (n := 6 * (u + 0)) (by omega) (by omega) ?_
          exact b_L_types_62 hC hr hlk hX hlt hk18 hv18 (by omega) h
set_option maxRecDepth 100000 in
set_option maxHeartbeats 8000000 in
theorem b_L_types_13 {u : Nat} {rv : Int32} {Mf : Mem} {x2 : Int32} {x3 : Int32} {x4 : Int32} {x5 : Int32} {x6 : Int32} {z0 : Int32} {M : Mem} (hC : Cx p s m args c cL_types RL 10 G) (hr : meth.sig.returnType = some .boolean) (hlk : meth.locks = false) (hX : XF G s) (hlt : l.stackTraces = false) (hu : u + (25) ≤ 26) (h : B_L_types_13 x2 x3 x4 x5 x6 z0 M = some (rv, Mf)) : V p l e (rmc 11 26) s m args below meth c 10 G (u) (6 * (u)) (MQ below (gQ G (some (.int rv)) Mf) args s 26 (6 * 26) (gA G)) 13 [(0, .ref (adr G 6 0)), (2, .int x2), (3, .int x3), (4, .int x4), (5, .int x5), (6, .int x6)] [.int z0] M := by
  refine V_istore hC ([(7, .int z0), (0, .ref (adr G 6 0)), (2, .int x2), (3, .int x3), (4, .int x4), (5, .int x5), (6, .int x6)]) dL_types_13 (by decide) rfl ?_
  refine V_iconst hC (0 : Int32) dL_types_15 (by decide) ?_
  refine V_istore hC ([(8, .int (0 : Int32)), (7, .int z0), (0, .ref (adr G 6 0)), (2, .int x2), (3, .int x3), (4, .int x4), (5, .int x5), (6, .int x6)]) dL_types_16 (by decide) rfl ?_
  refine V_sub [2, 3, 4, 5, 6, 7, 1, 0] rfl ?_
  refine V_widen (k := u + 0) (n := 6 * (u + 0)) (by omega) (by omega) ?_
  exact l_L_types_18 hC hr hlk hX hlt 6 (by omega) h
set_option maxRecDepth 100000 in
set_option maxHeartbeats 8000000 in
theorem c_L_types {l : Launch} {G : Geo} {x1 : Int32} {x2 : Int32} {x3 : Int32} {x4 : Int32} {x5 : Int32} {x6 : Int32} {rv : Int32} {Mf : Mem} {M : Mem} (hlt : l.stackTraces = false) (hG : gD G) (h : f_L_types x1 x2 x3 x4 x5 x6 M = some (rv, Mf)) : Met l yL_types (.code yL_types cL_types 10 (some .boolean) :: GL) (rmc 11 26) (gPx G [.ref (adr G 6 0), .int x1, .int x2, .int x3, .int x4, .int x5, .int x6] M) (gQ G (some (.int rv)) Mf) 26 (6 * 26) (gA G) := by
  refine PMet_of (own := RL) (L := [(0, .ref (adr G 6 0)), (1, .int x1), (2, .int x2), (3, .int x3), (4, .int x4), (5, .int x5), (6, .int x6)]) hG (by decide +kernel) rfl (Nat.le_of_ble_eq_true rfl) rfl ?_
  intro p e s m args below meth c hC hX hr hlk
  obtain ⟨u, eu⟩ : ∃ u : Nat, u = 0 := ⟨0, rfl⟩
  have hu : u + 26 ≤ 26 := by omega
  refine V_u (u := u) eu ?_
  refine V_aload_n hC dL_types_0 rfl 0 rfl ?_
  refine V_iload_n hC dL_types_1 rfl 1 rfl ?_
  obtain ⟨q1, e1, h⟩ := bind_some h
  refine V_cW hC hX [.ref (adr G 6 0), .int x1] (c_L_append (l := l) (rv := q1.1) (Mf := q1.2) hlt hC.2.2.2.2.2.2.2 e1) kx_L_append gw_1134 gw_1133 ⟨Nat.le_of_ble_eq_true rfl, Nat.le_of_ble_eq_true rfl⟩ rfl (Nat.le_of_ble_eq_true rfl) dL_types_2 ⟨by show _ ≤ 26; omega, by show _ ≤ 6 * 26; omega⟩ rfl ?_
  refine V_if_le hC 12 dL_types_5 (by decide) (fun c2 => ?_) (fun c2 => ?_)
  · have h := ite_t c2 h
    refine V_iconst hC (0 : Int32) dL_types_12 (by decide) ?_
    refine V_sub [0, 2, 3, 4, 5, 6] rfl ?_
    refine V_widen (k := u + 1) (n := 6 * (u + 1)) (by omega) (by omega) ?_
    exact b_L_types_13 hC hr hlk hX hlt (by omega) h
  · have h := ite_f c2 h
    refine V_iconst hC (1 : Int32) dL_types_8 (by decide) ?_
    refine V_goto hC 13 dL_types_9 (by decide) ?_
    refine V_sub [0, 2, 3, 4, 5, 6] rfl ?_
    refine V_widen (k := u + 1) (n := 6 * (u + 1)) (by omega) (by omega) ?_
    exact b_L_types_13 hC hr hlk hX hlt (by omega) h
set_option maxRecDepth 100000 in
set_option maxHeartbeats 8000000 in
theorem b_L_areOrders_293 {u : Nat} {rv : Int32} {Mf : Mem} {x6 : Int64} {x8 : Int32} {M : Mem} (hC : Cx p s m args c cL_areOrders RL 14 G) (hr : meth.sig.returnType = some .boolean) (hlk : meth.locks = false) (hX : XF G s) (hlt : l.stackTraces = false) (hu : u + (451) ≤ 2342) (h : B_L_areOrders_293 x6 x8 M = some (rv, Mf)) : V p l e (rmc 12 2342) s m args below meth c 14 G (u) (6 * (u)) (MQ below (gQ G (some (.int rv)) Mf) args s 2342 (6 * 2342) (gA G)) 293 [(0, .ref (adr G 6 0)), (6, .long x6), (8, .int x8)] [] M := by
  refine V_iload hC dL_areOrders_293 2 rfl ?_
  refine V_if_eq hC 319 dL_areOrders_295 (by decide) (fun c10 => ?_) (fun c10 => ?_)
  · have h := ite_t c10 h
    refine V_iconst hC (0 : Int32) dL_areOrders_319 (by decide) ?_
    obtain ⟨rfl, rfl⟩ := Prod.mk.inj (Option.some.inj h)
    exact V_pzret hC hr hlk (by omega) (by omega) (Or.inl rfl) dL_areOrders_320
  · have h := ite_f c10 h
    refine V_aload_n hC dL_areOrders_298 rfl 0 rfl ?_
    obtain ⟨q11, e11, h⟩ := bind_some h
    refine V_cL (K := 451) hC hX [.ref (adr G 6 0)] (c_L_print (l := l) (rv := q11.1) (Mf := q11.2) hlt hC.2.2.2.2.2.2.2 e11) kd_L_print gw_961 gw_960 ⟨Nat.le_of_ble_eq_true rfl, Nat.le_of_ble_eq_true rfl⟩ rfl (Nat.le_of_ble_eq_true rfl) dL_areOrders_299 ⟨by show _ ≤ 2342; omega, by show _ ≤ 6 * 2342; omega⟩ rfl ?_
    refine V_lload hC dL_areOrders_302 1 rfl ?_
    refine V_lcmp hC dL_areOrders_304 ?_
    refine V_if_ne hC 319 dL_areOrders_305 (by decide) (fun c12 => ?_) (fun c12 => ?_)
    · have h := ite_f c12 h
      refine V_iconst hC (0 : Int32) dL_areOrders_319 (by decide) ?_
      obtain ⟨rfl, rfl⟩ := Prod.mk.inj (Option.some.inj h)
      exact V_pzret hC hr hlk (by omega) (by omega) (Or.inl rfl) dL_areOrders_320
    · have h := ite_t c12 h
      refine V_aload_n hC dL_areOrders_308 rfl 0 rfl ?_
      obtain ⟨q13, e13, h⟩ := bind_some h
      refine V_cVr hC [] (c_X8_clearText (l := l) (rv := q13.1) (Mf := q13.2) hC.2.2.2.2.2.2.2 e13) kd_X8_clearText kv_X8_clearText gw_1177 (r_s0_0).o rfl ⟨Nat.le_of_ble_eq_true rfl, Nat.le_of_ble_eq_true rfl⟩ rfl (Nat.le_of_ble_eq_true rfl) dL_areOrders_309 ⟨by show _ ≤ 2342; omega, by show _ ≤ 6 * 2342; omega⟩ rfl ?_
      refine V_if_le hC 319 dL_areOrders_312 (by decide) (fun c14 => ?_) (fun c14 => ?_)
      · have h := ite_t c14 h
        refine V_iconst hC (0 : Int32) dL_areOrders_319 (by decide) ?_
        obtain ⟨rfl, rfl⟩ := Prod.mk.inj (Option.some.inj h)
        exact V_pzret hC hr hlk (by omega) (by omega) (Or.inl rfl) dL_areOrders_320
      · have h := ite_f c14 h
        refine V_iconst hC (1 : Int32) dL_areOrders_315 (by decide) ?_
        refine V_goto hC 320 dL_areOrders_316 (by decide) ?_
        obtain ⟨rfl, rfl⟩ := Prod.mk.inj (Option.some.inj h)
        exact V_pzret hC hr hlk (by omega) (by omega) (Or.inr rfl) dL_areOrders_320
set_option maxRecDepth 100000 in
set_option maxHeartbeats 8000000 in
theorem b_L_areOrders_285 {u : Nat} {v261 : Nat} {rv : Int32} {Mf : Mem} {k261 : Int32 → Int32 → Mem → Option (Int32 × Mem)} {x6 : Int64} {x12 : Int32} {x13 : Int32} {z0 : Int32} {M : Mem} (hC : Cx p s m args c cL_areOrders RL 14 G) (hr : meth.sig.returnType = some .boolean) (hlk : meth.locks = false) (hX : XF G s) (hlt : l.stackTraces = false) (hk261 : ∀ (u : Nat) (x8 : Int32) (x13 : Int32) (M : Mem), u + v261 ≤ 2342 → k261 x8 x13 M = some (rv, Mf) → V p l e (rmc 12 2342) s m args below meth c 14 G (u) (6 * (u)) (MQ below (gQ G (some (.int rv)) Mf) args s 2342 (6 * 2342) (gA G)) 261 [(0, .ref (adr G 6 0)), (6, .long x6), (8, .int x8), (12, .int x12), (13, .int x13)] [] M) (hv261 : 451 ≤ v261) (hu : u + (0 + v261) ≤ 2342) (h : B_L_areOrders_285 k261 x6 x12 x13 z0 M = some (rv, Mf)) : V p l e (rmc 12 2342) s m args below meth c 14 G (u) (6 * (u)) (MQ below (gQ G (some (.int rv)) Mf) args s 2342 (6 * 2342) (gA G)) 285 [(0, .ref (adr G 6 0)), (6, .long x6), (12, .int x12), (13, .int x13)] [.int z0] M := by
  refine V_istore hC ([(8, .int z0), (0, .ref (adr G 6 0)), (6, .long x6), (12, .int x12), (13, .int x13)]) dL_areOrders_285 (by decide) rfl ?_
  refine V_iinc hC (x13 + 1) ([(13, .int (x13 + 1)), (8, .int z0), (0, .ref (adr G 6 0)), (6, .long x6), (12, .int x12)]) dL_areOrders_287 4 rfl rfl (by decide) rfl ?_
  refine V_goto hC 261 dL_areOrders_290 (by decide) ?_
  refine V_sub [2, 3, 1, 4, 0] rfl ?_
  refine V_widen (k := u + 0) (n := 6 * (u + 0)) (by omega) (by omega) ?_
  exact hk261 _ _ _ _ (by omega) h
set_option maxRecDepth 100000 in
set_option maxHeartbeats 8000000 in
theorem l_L_areOrders_261 {rv : Int32} {Mf : Mem} {x6 : Int64} {x12 : Int32} (hC : Cx p s m args c cL_areOrders RL 14 G) (hr : meth.sig.returnType = some .boolean) (hlk : meth.locks = false) (hX : XF G s) (hlt : l.stackTraces = false) : ∀ (n : Nat) {u : Nat} {x8 : Int32} {x13 : Int32} {M : Mem} (hu : u + (1 * n + (451)) ≤ 2342) (h : L_L_areOrders_261 x6 x12 n x8 x13 M = some (rv, Mf)), V p l e (rmc 12 2342) s m args below meth c 14 G (u) (6 * (u)) (MQ below (gQ G (some (.int rv)) Mf) args s 2342 (6 * 2342) (gA G)) 261 [(0, .ref (adr G 6 0)), (6, .long x6), (8, .int x8), (12, .int x12), (13, .int x13)] [] M := by
  intro n
  induction n with
  | zero => intro u x8 x13 M hu h; cases h
  | succ n ih =>
    intro u x8 x13 M hu h
    rw [Nat.mul_succ] at hu
    obtain ⟨v261, ev261⟩ : ∃ v, v = 1 * n + (451) := ⟨_, rfl⟩
    have hv261 : 451 ≤ v261 := by rw [ev261]; exact Nat.le_add_left _ _
    have hk261 : ∀ (u : Nat) (x8 : Int32) (x13 : Int32) (M : Mem), u + v261 ≤ 2342 → L_L_areOrders_261 x6 x12 n x8 x13 M = some (rv, Mf) → V p l e (rmc 12 2342) s m args below meth c 14 G (u) (6 * (u)) (MQ below (gQ G (some (.int rv)) Mf) args s 2342 (6 * 2342) (gA G)) 261 [(0, .ref (adr G 6 0)), (6, .long x6), (8, .int x8), (12, .int x12), (13, .int x13)] [] M := fun _ _ _ _ hw z => ih (by rw [← ev261]; exact hw) z
    have hu : u + 1 + v261 ≤ 2342 := bud hu ev261
    clear ih ev261
    refine V_iload hC dL_areOrders_261 4 rfl ?_
    refine V_iload hC dL_areOrders_263 3 rfl ?_
    refine V_icmp_ge hC 293 dL_areOrders_265 (by decide) (fun c9 => ?_) (fun c9 => ?_)
    · have h := ite_t c9 h
      refine V_sub [0, 1, 2] rfl ?_
      refine V_widen (k := u + 0) (n := 6 * (u + 0)) (by omega) (by omega) ?_
      exact b_L_areOrders_293 hC hr hlk hX hlt (by omega) h
    · have h := ite_f c9 h
      refine V_iload hC dL_areOrders_268 2 rfl ?_
      refine V_if_eq hC 293 dL_areOrders_270 (by decide) (fun c15 => ?_) (fun c15 => ?_)
      · have h := ite_t c15 h
        refine V_sub [0, 1, 2] rfl ?_
        refine V_widen (k := u + 0) (n := 6 * (u + 0)) (by omega) (by omega) ?_
        exact b_L_areOrders_293 hC hr hlk hX hlt (by omega) h
      · have h := ite_f c15 h
        refine V_aload_n hC dL_areOrders_273 rfl 0 rfl ?_
        obtain ⟨q16, e16, h⟩ := bind_some h
        refine V_cW hC hX [.ref (adr G 6 0)] (c_L_undo (l := l) (rv := q16.1) (Mf := q16.2) hlt hC.2.2.2.2.2.2.2 e16) kx_L_undo gw_947 gw_946 ⟨Nat.le_of_ble_eq_true rfl, Nat.le_of_ble_eq_true rfl⟩ rfl (Nat.le_of_ble_eq_true rfl) dL_areOrders_274 ⟨by show _ ≤ 2342; omega, by show _ ≤ 6 * 2342; omega⟩ rfl ?_
        refine V_if_lt hC 284 dL_areOrders_277 (by decide) (fun c17 => ?_) (fun c17 => ?_)
        · have h := ite_t c17 h
          refine V_iconst hC (0 : Int32) dL_areOrders_284 (by decide) ?_
          refine V_sub [0, 1, 3, 4] rfl ?_
          refine V_widen (k := u + 1) (n := 6 * (u + 1)) (by omega) (by omega) ?_
          exact b_L_areOrders_285 hC hr hlk hX hlt hk261 hv261 (by omega) h
        · have h := ite_f c17 h
          refine V_iconst hC (1 : Int32) dL_areOrders_280 (by decide) ?_
          refine V_goto hC 285 dL_areOrders_281 (by decide) ?_
          refine V_sub [0, 1, 3, 4] rfl ?_
          refine V_widen (k := u + 1) (n := 6 * (u + 1)) (by omega) (by omega) ?_
          exact b_L_areOrders_285 hC hr hlk hX hlt hk261 hv261 (by omega) h
set_option maxRecDepth 100000 in
set_option maxHeartbeats 8000000 in
theorem b_L_areOrders_256 {u : Nat} {rv : Int32} {Mf : Mem} {x6 : Int64} {x12 : Int32} {z0 : Int32} {M : Mem} (hC : Cx p s m args c cL_areOrders RL 14 G) (hr : meth.sig.returnType = some .boolean) (hlk : meth.locks = false) (hX : XF G s) (hlt : l.stackTraces = false) (hu : u + (456) ≤ 2342) (h : B_L_areOrders_256 x6 x12 z0 M = some (rv, Mf)) : V p l e (rmc 12 2342) s m args below meth c 14 G (u) (6 * (u)) (MQ below (gQ G (some (.int rv)) Mf) args s 2342 (6 * 2342) (gA G)) 256 [(0, .ref (adr G 6 0)), (6, .long x6), (12, .int x12)] [.int z0] M := by
  refine V_istore hC ([(8, .int z0), (0, .ref (adr G 6 0)), (6, .long x6), (12, .int x12)]) dL_areOrders_256 (by decide) rfl ?_
  refine V_iconst hC (0 : Int32) dL_areOrders_258 (by decide) ?_
  refine V_istore hC ([(13, .int (0 : Int32)), (8, .int z0), (0, .ref (adr G 6 0)), (6, .long x6), (12, .int x12)]) dL_areOrders_259 (by decide) rfl ?_
  refine V_sub [2, 3, 1, 4, 0] rfl ?_
  refine V_widen (k := u + 0) (n := 6 * (u + 0)) (by omega) (by omega) ?_
  exact l_L_areOrders_261 hC hr hlk hX hlt 5 (by omega) h
set_option maxRecDepth 100000 in
set_option maxHeartbeats 8000000 in
theorem b_L_areOrders_255 {u : Nat} {rv : Int32} {Mf : Mem} {x6 : Int64} {x12 : Int32} {M : Mem} (hC : Cx p s m args c cL_areOrders RL 14 G) (hr : meth.sig.returnType = some .boolean) (hlk : meth.locks = false) (hX : XF G s) (hlt : l.stackTraces = false) (hu : u + (456) ≤ 2342) (h : B_L_areOrders_255 x6 x12 M = some (rv, Mf)) : V p l e (rmc 12 2342) s m args below meth c 14 G (u) (6 * (u)) (MQ below (gQ G (some (.int rv)) Mf) args s 2342 (6 * 2342) (gA G)) 255 [(0, .ref (adr G 6 0)), (6, .long x6), (12, .int x12)] [] M := by
  refine V_iconst hC (0 : Int32) dL_areOrders_255 (by decide) ?_
  refine V_widen (k := u + 0) (n := 6 * (u + 0)) (by omega) (by omega) ?_
  exact b_L_areOrders_256 hC hr hlk hX hlt (by omega) h
set_option maxRecDepth 100000 in
set_option maxHeartbeats 8000000 in
theorem b_L_areOrders_251 {u : Nat} {rv : Int32} {Mf : Mem} {x6 : Int64} {x12 : Int32} {M : Mem} (hC : Cx p s m args c cL_areOrders RL 14 G) (hr : meth.sig.returnType = some .boolean) (hlk : meth.locks = false) (hX : XF G s) (hlt : l.stackTraces = false) (hu : u + (456) ≤ 2342) (h : B_L_areOrders_251 x6 x12 M = some (rv, Mf)) : V p l e (rmc 12 2342) s m args below meth c 14 G (u) (6 * (u)) (MQ below (gQ G (some (.int rv)) Mf) args s 2342 (6 * 2342) (gA G)) 251 [(0, .ref (adr G 6 0)), (6, .long x6), (12, .int x12)] [] M := by
  refine V_iconst hC (1 : Int32) dL_areOrders_251 (by decide) ?_
  refine V_goto hC 256 dL_areOrders_252 (by decide) ?_
  refine V_widen (k := u + 0) (n := 6 * (u + 0)) (by omega) (by omega) ?_
  exact b_L_areOrders_256 hC hr hlk hX hlt (by omega) h
set_option maxRecDepth 100000 in
set_option maxHeartbeats 8000000 in
theorem b_L_areOrders_210 {u : Nat} {rv : Int32} {Mf : Mem} {x6 : Int64} {x8 : Int32} {x9 : Int32} {x10 : Int64} {x12 : Int32} {M : Mem} (hC : Cx p s m args c cL_areOrders RL 14 G) (hr : meth.sig.returnType = some .boolean) (hlk : meth.locks = false) (hX : XF G s) (hlt : l.stackTraces = false) (hu : u + (907) ≤ 2342) (h : B_L_areOrders_210 x6 x8 x9 x10 x12 M = some (rv, Mf)) : V p l e (rmc 12 2342) s m args below meth c 14 G (u) (6 * (u)) (MQ below (gQ G (some (.int rv)) Mf) args s 2342 (6 * 2342) (gA G)) 210 [(0, .ref (adr G 6 0)), (6, .long x6), (8, .int x8), (9, .int x9), (10, .long x10), (12, .int x12)] [] M := by
  refine V_iload hC dL_areOrders_210 2 rfl ?_
  refine V_if_eq hC 255 dL_areOrders_212 (by decide) (fun c8 => ?_) (fun c8 => ?_)
  · have h := ite_t c8 h
    refine V_sub [0, 1, 5] rfl ?_
    refine V_widen (k := u + 0) (n := 6 * (u + 0)) (by omega) (by omega) ?_
    exact b_L_areOrders_255 hC hr hlk hX hlt (by omega) h
  · have h := ite_f c8 h
    refine V_iload hC dL_areOrders_215 3 rfl ?_
    refine V_iconst hC (3 : Int32) dL_areOrders_217 (by decide) ?_
    refine V_icmp_ne hC 240 dL_areOrders_218 (by decide) (fun c18 => ?_) (fun c18 => ?_)
    · have h := ite_f c18 h
      refine V_iload hC dL_areOrders_240 5 rfl ?_
      refine V_sipush hC ((-1000) : Int32) dL_areOrders_242 (by decide) ?_
      refine V_iload hC dL_areOrders_245 3 rfl ?_
      refine V_isub hC dL_areOrders_247 ?_
      refine V_icmp_ne hC 255 dL_areOrders_248 (by decide) (fun c19 => ?_) (fun c19 => ?_)
      · have h := ite_f c19 h
        refine V_sub [0, 1, 5] rfl ?_
        refine V_widen (k := u + 0) (n := 6 * (u + 0)) (by omega) (by omega) ?_
        exact b_L_areOrders_255 hC hr hlk hX hlt (by omega) h
      · have h := ite_t c19 h
        refine V_sub [0, 1, 5] rfl ?_
        refine V_widen (k := u + 0) (n := 6 * (u + 0)) (by omega) (by omega) ?_
        exact b_L_areOrders_251 hC hr hlk hX hlt (by omega) h
    · have h := ite_t c18 h
      refine V_iload hC dL_areOrders_221 5 rfl ?_
      refine V_iconst hC (3 : Int32) dL_areOrders_223 (by decide) ?_
      refine V_icmp_ne hC 255 dL_areOrders_224 (by decide) (fun c20 => ?_) (fun c20 => ?_)
      · have h := ite_f c20 h
        refine V_sub [0, 1, 5] rfl ?_
        refine V_widen (k := u + 0) (n := 6 * (u + 0)) (by omega) (by omega) ?_
        exact b_L_areOrders_255 hC hr hlk hX hlt (by omega) h
      · have h := ite_t c20 h
        refine V_aload_n hC dL_areOrders_227 rfl 0 rfl ?_
        obtain ⟨q21, e21, h⟩ := bind_some h
        refine V_cL (K := 451) hC hX [.ref (adr G 6 0)] (c_L_print (l := l) (rv := q21.1) (Mf := q21.2) hlt hC.2.2.2.2.2.2.2 e21) kd_L_print gw_961 gw_960 ⟨Nat.le_of_ble_eq_true rfl, Nat.le_of_ble_eq_true rfl⟩ rfl (Nat.le_of_ble_eq_true rfl) dL_areOrders_228 ⟨by show _ ≤ 2342; omega, by show _ ≤ 6 * 2342; omega⟩ rfl ?_
        refine V_lload hC dL_areOrders_231 4 rfl ?_
        refine V_lcmp hC dL_areOrders_233 ?_
        refine V_if_ne hC 255 dL_areOrders_234 (by decide) (fun c22 => ?_) (fun c22 => ?_)
        · have h := ite_f c22 h
          refine V_sub [0, 1, 5] rfl ?_
          refine V_widen (k := u + 451) (n := 6 * (u + 451)) (by omega) (by omega) ?_
          exact b_L_areOrders_255 hC hr hlk hX hlt (by omega) h
        · have h := ite_t c22 h
          refine V_goto hC 251 dL_areOrders_237 (by decide) ?_
          refine V_sub [0, 1, 5] rfl ?_
          refine V_widen (k := u + 451) (n := 6 * (u + 451)) (by omega) (by omega) ?_
          exact b_L_areOrders_251 hC hr hlk hX hlt (by omega) h
set_option maxRecDepth 100000 in
set_option maxHeartbeats 8000000 in
theorem b_L_areOrders_208 {u : Nat} {rv : Int32} {Mf : Mem} {x6 : Int64} {x8 : Int32} {x9 : Int32} {x10 : Int64} {z0 : Int32} {M : Mem} (hC : Cx p s m args c cL_areOrders RL 14 G) (hr : meth.sig.returnType = some .boolean) (hlk : meth.locks = false) (hX : XF G s) (hlt : l.stackTraces = false) (hu : u + (907) ≤ 2342) (h : B_L_areOrders_208 x6 x8 x9 x10 z0 M = some (rv, Mf)) : V p l e (rmc 12 2342) s m args below meth c 14 G (u) (6 * (u)) (MQ below (gQ G (some (.int rv)) Mf) args s 2342 (6 * 2342) (gA G)) 208 [(0, .ref (adr G 6 0)), (6, .long x6), (8, .int x8), (9, .int x9), (10, .long x10)] [.int z0] M := by
  refine V_istore hC ([(12, .int z0), (0, .ref (adr G 6 0)), (6, .long x6), (8, .int x8), (9, .int x9), (10, .long x10)]) dL_areOrders_208 (by decide) rfl ?_
  refine V_sub [1, 2, 3, 4, 5, 0] rfl ?_
  refine V_widen (k := u + 0) (n := 6 * (u + 0)) (by omega) (by omega) ?_
  exact b_L_areOrders_210 hC hr hlk hX hlt (by omega) h
set_option maxRecDepth 100000 in
set_option maxHeartbeats 8000000 in
theorem b_L_areOrders_152 {u : Nat} {rv : Int32} {Mf : Mem} {x1 : Int32} {x2 : Int32} {x3 : Int32} {x4 : Int32} {x5 : Int32} {x6 : Int64} {x9 : Int32} {x10 : Int64} {z0 : Int32} {M : Mem} (hC : Cx p s m args c cL_areOrders RL 14 G) (hr : meth.sig.returnType = some .boolean) (hlk : meth.locks = false) (hX : XF G s) (hlt : l.stackTraces = false) (hu : u + (910) ≤ 2342) (h : B_L_areOrders_152 x1 x2 x3 x4 x5 x6 x9 x10 z0 M = some (rv, Mf)) : V p l e (rmc 12 2342) s m args below meth c 14 G (u) (6 * (u)) (MQ below (gQ G (some (.int rv)) Mf) args s 2342 (6 * 2342) (gA G)) 152 [(0, .ref (adr G 6 0)), (1, .int x1), (2, .int x2), (3, .int x3), (4, .int x4), (5, .int x5), (6, .long x6), (9, .int x9), (10, .long x10)] [.int z0] M := by
  refine V_istore hC ([(8, .int z0), (0, .ref (adr G 6 0)), (1, .int x1), (2, .int x2), (3, .int x3), (4, .int x4), (5, .int x5), (6, .long x6), (9, .int x9), (10, .long x10)]) dL_areOrders_152 (by decide) rfl ?_
  refine V_iconst hC (0 : Int32) dL_areOrders_154 (by decide) ?_
  refine V_istore hC ([(12, .int (0 : Int32)), (8, .int z0), (0, .ref (adr G 6 0)), (1, .int x1), (2, .int x2), (3, .int x3), (4, .int x4), (5, .int x5), (6, .long x6), (9, .int x9), (10, .long x10)]) dL_areOrders_155 (by decide) rfl ?_
  refine V_iload hC dL_areOrders_157 1 rfl ?_
  refine V_if_eq hC 210 dL_areOrders_159 (by decide) (fun c7 => ?_) (fun c7 => ?_)
  · have h := ite_t c7 h
    refine V_sub [2, 8, 1, 9, 10, 0] rfl ?_
    refine V_widen (k := u + 0) (n := 6 * (u + 0)) (by omega) (by omega) ?_
    exact b_L_areOrders_210 hC hr hlk hX hlt (by omega) h
  · have h := ite_f c7 h
    refine V_aload_n hC dL_areOrders_162 rfl 2 rfl ?_
    refine V_iload hC dL_areOrders_163 6 rfl ?_
    refine V_iconst hC (4 : Int32) dL_areOrders_165 (by decide) ?_
    refine V_irem hC dL_areOrders_166 (by decide) ?_
    obtain ⟨q23, e23, h⟩ := bind_some h
    refine V_cW hC hX [.ref (adr G 6 0), .int (ireM x4 (4 : Int32))] (c_L_pass (l := l) (rv := q23.1) (Mf := q23.2) hlt hC.2.2.2.2.2.2.2 e23) kx_L_pass gw_879 gw_878 ⟨Nat.le_of_ble_eq_true rfl, Nat.le_of_ble_eq_true rfl⟩ rfl (Nat.le_of_ble_eq_true rfl) dL_areOrders_167 ⟨by show _ ≤ 2342; omega, by show _ ≤ 6 * 2342; omega⟩ rfl ?_
    refine V_if_lt hC 210 dL_areOrders_170 (by decide) (fun c24 => ?_) (fun c24 => ?_)
    · have h := ite_t c24 h
      refine V_sub [2, 8, 1, 9, 10, 0] rfl ?_
      refine V_widen (k := u + 1) (n := 6 * (u + 1)) (by omega) (by omega) ?_
      exact b_L_areOrders_210 hC hr hlk hX hlt (by omega) h
    · have h := ite_f c24 h
      refine V_iconst hC (1 : Int32) dL_areOrders_173 (by decide) ?_
      refine V_istore hC ([(12, .int (1 : Int32)), (8, .int z0), (0, .ref (adr G 6 0)), (1, .int x1), (2, .int x2), (3, .int x3), (4, .int x4), (5, .int x5), (6, .long x6), (9, .int x9), (10, .long x10)]) dL_areOrders_174 (by decide) rfl ?_
      refine V_aload_n hC dL_areOrders_176 rfl 2 rfl ?_
      refine V_iload_n hC dL_areOrders_177 rfl 3 rfl ?_
      refine V_iload_n hC dL_areOrders_178 rfl 4 rfl ?_
      refine V_iconst hC (1 : Int32) dL_areOrders_179 (by decide) ?_
      refine V_iload hC dL_areOrders_180 6 rfl ?_
      refine V_bipush hC (9 : Int32) dL_areOrders_182 (by decide) ?_
      refine V_irem hC dL_areOrders_184 (by decide) ?_
      refine V_iadd hC dL_areOrders_185 ?_
      refine V_iload hC dL_areOrders_186 7 rfl ?_
      obtain ⟨q25, e25, h⟩ := bind_some h
      refine V_cW hC hX [.ref (adr G 6 0), .int x1, .int x2, .int ((1 : Int32) + (ireM x4 (9 : Int32))), .int x5] (c_L_request (l := l) (rv := q25.1) (Mf := q25.2) hlt hC.2.2.2.2.2.2.2 e25) kx_L_request gw_601 gw_600 ⟨Nat.le_of_ble_eq_true rfl, Nat.le_of_ble_eq_true rfl⟩ rfl (Nat.le_of_ble_eq_true rfl) dL_areOrders_188 ⟨by show _ ≤ 2342; omega, by show _ ≤ 6 * 2342; omega⟩ rfl ?_
      refine V_iconst hC ((-1) : Int32) dL_areOrders_191 (by decide) ?_
      refine V_icmp_lt hC 210 dL_areOrders_192 (by decide) (fun c26 => ?_) (fun c26 => ?_)
      · have h := ite_t c26 h
        refine V_sub [2, 8, 1, 9, 10, 0] rfl ?_
        refine V_widen (k := u + 2) (n := 6 * (u + 2)) (by omega) (by omega) ?_
        exact b_L_areOrders_210 hC hr hlk hX hlt (by omega) h
      · have h := ite_f c26 h
        refine V_aload_n hC dL_areOrders_195 rfl 2 rfl ?_
        refine V_iload_n hC dL_areOrders_196 rfl 5 rfl ?_
        obtain ⟨q27, e27, h⟩ := bind_some h
        refine V_cW hC hX [.ref (adr G 6 0), .int x3] (c_L_breakUp (l := l) (rv := q27.1) (Mf := q27.2) hlt hC.2.2.2.2.2.2.2 e27) kx_L_breakUp gw_760 gw_759 ⟨Nat.le_of_ble_eq_true rfl, Nat.le_of_ble_eq_true rfl⟩ rfl (Nat.le_of_ble_eq_true rfl) dL_areOrders_197 ⟨by show _ ≤ 2342; omega, by show _ ≤ 6 * 2342; omega⟩ rfl ?_
        refine V_if_lt hC 207 dL_areOrders_200 (by decide) (fun c28 => ?_) (fun c28 => ?_)
        · have h := ite_t c28 h
          refine V_iconst hC (2 : Int32) dL_areOrders_207 (by decide) ?_
          refine V_sub [2, 8, 1, 9, 10] rfl ?_
          refine V_widen (k := u + 3) (n := 6 * (u + 3)) (by omega) (by omega) ?_
          exact b_L_areOrders_208 hC hr hlk hX hlt (by omega) h
        · have h := ite_f c28 h
          refine V_iconst hC (3 : Int32) dL_areOrders_203 (by decide) ?_
          refine V_goto hC 208 dL_areOrders_204 (by decide) ?_
          refine V_sub [2, 8, 1, 9, 10] rfl ?_
          refine V_widen (k := u + 3) (n := 6 * (u + 3)) (by omega) (by omega) ?_
          exact b_L_areOrders_208 hC hr hlk hX hlt (by omega) h
set_option maxRecDepth 100000 in
set_option maxHeartbeats 8000000 in
theorem b_L_areOrders_151 {u : Nat} {rv : Int32} {Mf : Mem} {x1 : Int32} {x2 : Int32} {x3 : Int32} {x4 : Int32} {x5 : Int32} {x6 : Int64} {x9 : Int32} {x10 : Int64} {M : Mem} (hC : Cx p s m args c cL_areOrders RL 14 G) (hr : meth.sig.returnType = some .boolean) (hlk : meth.locks = false) (hX : XF G s) (hlt : l.stackTraces = false) (hu : u + (910) ≤ 2342) (h : B_L_areOrders_151 x1 x2 x3 x4 x5 x6 x9 x10 M = some (rv, Mf)) : V p l e (rmc 12 2342) s m args below meth c 14 G (u) (6 * (u)) (MQ below (gQ G (some (.int rv)) Mf) args s 2342 (6 * 2342) (gA G)) 151 [(0, .ref (adr G 6 0)), (1, .int x1), (2, .int x2), (3, .int x3), (4, .int x4), (5, .int x5), (6, .long x6), (9, .int x9), (10, .long x10)] [] M := by
  refine V_iconst hC (0 : Int32) dL_areOrders_151 (by decide) ?_
  refine V_widen (k := u + 0) (n := 6 * (u + 0)) (by omega) (by omega) ?_
  exact b_L_areOrders_152 hC hr hlk hX hlt (by omega) h
set_option maxRecDepth 100000 in
set_option maxHeartbeats 8000000 in
theorem b_L_areOrders_137 {u : Nat} {rv : Int32} {Mf : Mem} {x1 : Int32} {x2 : Int32} {x3 : Int32} {x4 : Int32} {x5 : Int32} {x6 : Int64} {x9 : Int32} {x10 : Int64} {M : Mem} (hC : Cx p s m args c cL_areOrders RL 14 G) (hr : meth.sig.returnType = some .boolean) (hlk : meth.locks = false) (hX : XF G s) (hlt : l.stackTraces = false) (hu : u + (1361) ≤ 2342) (h : B_L_areOrders_137 x1 x2 x3 x4 x5 x6 x9 x10 M = some (rv, Mf)) : V p l e (rmc 12 2342) s m args below meth c 14 G (u) (6 * (u)) (MQ below (gQ G (some (.int rv)) Mf) args s 2342 (6 * 2342) (gA G)) 137 [(0, .ref (adr G 6 0)), (1, .int x1), (2, .int x2), (3, .int x3), (4, .int x4), (5, .int x5), (6, .long x6), (9, .int x9), (10, .long x10)] [] M := by
  refine V_aload_n hC dL_areOrders_137 rfl 0 rfl ?_
  obtain ⟨q32, e32, h⟩ := bind_some h
  refine V_cL (K := 451) hC hX [.ref (adr G 6 0)] (c_L_print (l := l) (rv := q32.1) (Mf := q32.2) hlt hC.2.2.2.2.2.2.2 e32) kd_L_print gw_961 gw_960 ⟨Nat.le_of_ble_eq_true rfl, Nat.le_of_ble_eq_true rfl⟩ rfl (Nat.le_of_ble_eq_true rfl) dL_areOrders_138 ⟨by show _ ≤ 2342; omega, by show _ ≤ 6 * 2342; omega⟩ rfl ?_
  refine V_lload hC dL_areOrders_141 6 rfl ?_
  refine V_lcmp hC dL_areOrders_143 ?_
  refine V_if_ne hC 151 dL_areOrders_144 (by decide) (fun c33 => ?_) (fun c33 => ?_)
  · have h := ite_f c33 h
    refine V_widen (k := u + 451) (n := 6 * (u + 451)) (by omega) (by omega) ?_
    exact b_L_areOrders_151 hC hr hlk hX hlt (by omega) h
  · have h := ite_t c33 h
    refine V_iconst hC (1 : Int32) dL_areOrders_147 (by decide) ?_
    refine V_goto hC 152 dL_areOrders_148 (by decide) ?_
    refine V_widen (k := u + 451) (n := 6 * (u + 451)) (by omega) (by omega) ?_
    exact b_L_areOrders_152 hC hr hlk hX hlt (by omega) h
set_option maxRecDepth 100000 in
set_option maxHeartbeats 8000000 in
theorem b_L_areOrders_129 {u : Nat} {rv : Int32} {Mf : Mem} {x1 : Int32} {x2 : Int32} {x3 : Int32} {x4 : Int32} {x5 : Int32} {x6 : Int64} {x9 : Int32} {x10 : Int64} {M : Mem} (hC : Cx p s m args c cL_areOrders RL 14 G) (hr : meth.sig.returnType = some .boolean) (hlk : meth.locks = false) (hX : XF G s) (hlt : l.stackTraces = false) (hu : u + (1361) ≤ 2342) (h : B_L_areOrders_129 x1 x2 x3 x4 x5 x6 x9 x10 M = some (rv, Mf)) : V p l e (rmc 12 2342) s m args below meth c 14 G (u) (6 * (u)) (MQ below (gQ G (some (.int rv)) Mf) args s 2342 (6 * 2342) (gA G)) 129 [(0, .ref (adr G 6 0)), (1, .int x1), (2, .int x2), (3, .int x3), (4, .int x4), (5, .int x5), (6, .long x6), (9, .int x9), (10, .long x10)] [] M := by
  refine V_lload hC dL_areOrders_129 8 rfl ?_
  refine V_lload hC dL_areOrders_131 6 rfl ?_
  refine V_lcmp hC dL_areOrders_133 ?_
  refine V_if_ne hC 151 dL_areOrders_134 (by decide) (fun c31 => ?_) (fun c31 => ?_)
  · have h := ite_f c31 h
    refine V_widen (k := u + 0) (n := 6 * (u + 0)) (by omega) (by omega) ?_
    exact b_L_areOrders_151 hC hr hlk hX hlt (by omega) h
  · have h := ite_t c31 h
    refine V_widen (k := u + 0) (n := 6 * (u + 0)) (by omega) (by omega) ?_
    exact b_L_areOrders_137 hC hr hlk hX hlt (by omega) h
set_option maxRecDepth 100000 in
set_option maxHeartbeats 8000000 in
theorem b_L_areOrders_78 {u : Nat} {rv : Int32} {Mf : Mem} {x1 : Int32} {x2 : Int32} {x3 : Int32} {x4 : Int32} {x5 : Int32} {x6 : Int64} {z0 : Int32} {M : Mem} (hC : Cx p s m args c cL_areOrders RL 14 G) (hr : meth.sig.returnType = some .boolean) (hlk : meth.locks = false) (hX : XF G s) (hlt : l.stackTraces = false) (hu : u + (1813) ≤ 2342) (h : B_L_areOrders_78 x1 x2 x3 x4 x5 x6 z0 M = some (rv, Mf)) : V p l e (rmc 12 2342) s m args below meth c 14 G (u) (6 * (u)) (MQ below (gQ G (some (.int rv)) Mf) args s 2342 (6 * 2342) (gA G)) 78 [(0, .ref (adr G 6 0)), (1, .int x1), (2, .int x2), (3, .int x3), (4, .int x4), (5, .int x5), (6, .long x6)] [.int z0] M := by
  refine V_istore hC ([(8, .int z0), (0, .ref (adr G 6 0)), (1, .int x1), (2, .int x2), (3, .int x3), (4, .int x4), (5, .int x5), (6, .long x6)]) dL_areOrders_78 (by decide) rfl ?_
  refine V_aload_n hC dL_areOrders_80 rfl 1 rfl ?_
  obtain ⟨q4, e4, h⟩ := bind_some h
  refine V_cVr hC [] (c_X8_carryOut (l := l) (rv := q4.1) (Mf := q4.2) hC.2.2.2.2.2.2.2 e4) kd_X8_carryOut kv_X8_carryOut gw_1184 (r_s0_0).o rfl ⟨Nat.le_of_ble_eq_true rfl, Nat.le_of_ble_eq_true rfl⟩ rfl (Nat.le_of_ble_eq_true rfl) dL_areOrders_81 ⟨by show _ ≤ 2342; omega, by show _ ≤ 6 * 2342; omega⟩ rfl ?_
  refine V_istore hC ([(9, .int q4.1), (8, .int z0), (0, .ref (adr G 6 0)), (1, .int x1), (2, .int x2), (3, .int x3), (4, .int x4), (5, .int x5), (6, .long x6)]) dL_areOrders_84 (by decide) rfl ?_
  refine V_aload_n hC dL_areOrders_86 rfl 2 rfl ?_
  obtain ⟨q5, e5, h⟩ := bind_some h
  refine V_cL (K := 451) hC hX [.ref (adr G 6 0)] (c_L_print (l := l) (rv := q5.1) (Mf := q5.2) hlt hC.2.2.2.2.2.2.2 e5) kd_L_print gw_961 gw_960 ⟨Nat.le_of_ble_eq_true rfl, Nat.le_of_ble_eq_true rfl⟩ rfl (Nat.le_of_ble_eq_true rfl) dL_areOrders_87 ⟨by show _ ≤ 2342; omega, by show _ ≤ 6 * 2342; omega⟩ rfl ?_
  refine V_lstore hC ([(10, .long q5.1), (9, .int q4.1), (8, .int z0), (0, .ref (adr G 6 0)), (1, .int x1), (2, .int x2), (3, .int x3), (4, .int x4), (5, .int x5), (6, .long x6)]) dL_areOrders_90 (by decide) rfl ?_
  refine V_iload hC dL_areOrders_92 2 rfl ?_
  refine V_if_eq hC 151 dL_areOrders_94 (by decide) (fun c6 => ?_) (fun c6 => ?_)
  · have h := ite_t c6 h
    refine V_sub [3, 4, 5, 6, 7, 8, 9, 1, 0] rfl ?_
    refine V_widen (k := u + 451) (n := 6 * (u + 451)) (by omega) (by omega) ?_
    exact b_L_areOrders_151 hC hr hlk hX hlt (by omega) h
  · have h := ite_f c6 h
    refine V_iload hC dL_areOrders_97 1 rfl ?_
    refine V_iconst hC (3 : Int32) dL_areOrders_99 (by decide) ?_
    refine V_icmp_ne hC 113 dL_areOrders_100 (by decide) (fun c29 => ?_) (fun c29 => ?_)
    · have h := ite_f c29 h
      refine V_iload hC dL_areOrders_113 1 rfl ?_
      refine V_sipush hC ((-1001) : Int32) dL_areOrders_115 (by decide) ?_
      refine V_icmp_eq hC 129 dL_areOrders_118 (by decide) (fun c30 => ?_) (fun c30 => ?_)
      · have h := ite_t c30 h
        refine V_sub [3, 4, 5, 6, 7, 8, 9, 1, 0] rfl ?_
        refine V_widen (k := u + 451) (n := 6 * (u + 451)) (by omega) (by omega) ?_
        exact b_L_areOrders_129 hC hr hlk hX hlt (by omega) h
      · have h := ite_f c30 h
        refine V_iload hC dL_areOrders_121 1 rfl ?_
        refine V_sipush hC ((-1002) : Int32) dL_areOrders_123 (by decide) ?_
        refine V_icmp_ne hC 151 dL_areOrders_126 (by decide) (fun c34 => ?_) (fun c34 => ?_)
        · have h := ite_f c34 h
          refine V_sub [3, 4, 5, 6, 7, 8, 9, 1, 0] rfl ?_
          refine V_widen (k := u + 451) (n := 6 * (u + 451)) (by omega) (by omega) ?_
          exact b_L_areOrders_151 hC hr hlk hX hlt (by omega) h
        · have h := ite_t c34 h
          refine V_sub [3, 4, 5, 6, 7, 8, 9, 1, 0] rfl ?_
          refine V_widen (k := u + 451) (n := 6 * (u + 451)) (by omega) (by omega) ?_
          exact b_L_areOrders_129 hC hr hlk hX hlt (by omega) h
    · have h := ite_t c29 h
      refine V_aload_n hC dL_areOrders_103 rfl 3 rfl ?_
      obtain ⟨q35, e35, h⟩ := bind_some h
      refine V_cW hC hX [.ref (adr G 6 0)] (c_L_undo (l := l) (rv := q35.1) (Mf := q35.2) hlt hC.2.2.2.2.2.2.2 e35) kx_L_undo gw_947 gw_946 ⟨Nat.le_of_ble_eq_true rfl, Nat.le_of_ble_eq_true rfl⟩ rfl (Nat.le_of_ble_eq_true rfl) dL_areOrders_104 ⟨by show _ ≤ 2342; omega, by show _ ≤ 6 * 2342; omega⟩ rfl ?_
      refine V_if_lt hC 151 dL_areOrders_107 (by decide) (fun c36 => ?_) (fun c36 => ?_)
      · have h := ite_t c36 h
        refine V_sub [3, 4, 5, 6, 7, 8, 9, 1, 0] rfl ?_
        refine V_widen (k := u + 452) (n := 6 * (u + 452)) (by omega) (by omega) ?_
        exact b_L_areOrders_151 hC hr hlk hX hlt (by omega) h
      · have h := ite_f c36 h
        refine V_goto hC 137 dL_areOrders_110 (by decide) ?_
        refine V_sub [3, 4, 5, 6, 7, 8, 9, 1, 0] rfl ?_
        refine V_widen (k := u + 452) (n := 6 * (u + 452)) (by omega) (by omega) ?_
        exact b_L_areOrders_137 hC hr hlk hX hlt (by omega) h
set_option maxRecDepth 100000 in
set_option maxHeartbeats 8000000 in
theorem b_L_areOrders_77 {u : Nat} {rv : Int32} {Mf : Mem} {x1 : Int32} {x2 : Int32} {x3 : Int32} {x4 : Int32} {x5 : Int32} {x6 : Int64} {M : Mem} (hC : Cx p s m args c cL_areOrders RL 14 G) (hr : meth.sig.returnType = some .boolean) (hlk : meth.locks = false) (hX : XF G s) (hlt : l.stackTraces = false) (hu : u + (1813) ≤ 2342) (h : B_L_areOrders_77 x1 x2 x3 x4 x5 x6 M = some (rv, Mf)) : V p l e (rmc 12 2342) s m args below meth c 14 G (u) (6 * (u)) (MQ below (gQ G (some (.int rv)) Mf) args s 2342 (6 * 2342) (gA G)) 77 [(0, .ref (adr G 6 0)), (1, .int x1), (2, .int x2), (3, .int x3), (4, .int x4), (5, .int x5), (6, .long x6)] [] M := by
  refine V_iconst hC (0 : Int32) dL_areOrders_77 (by decide) ?_
  refine V_widen (k := u + 0) (n := 6 * (u + 0)) (by omega) (by omega) ?_
  exact b_L_areOrders_78 hC hr hlk hX hlt (by omega) h
set_option maxRecDepth 100000 in
set_option maxHeartbeats 8000000 in
theorem b_L_areOrders_53 {u : Nat} {rv : Int32} {Mf : Mem} {x1 : Int32} {x2 : Int32} {x3 : Int32} {x4 : Int32} {x5 : Int32} {x6 : Int64} {z0 : Int32} {z1 : Int32} {z2 : Int32} {z3 : Int32} {z4 : Int32} {z5 : Int32} {M : Mem} (hC : Cx p s m args c cL_areOrders RL 14 G) (hr : meth.sig.returnType = some .boolean) (hlk : meth.locks = false) (hX : XF G s) (hlt : l.stackTraces = false) (hu : u + (1865) ≤ 2342) (h : B_L_areOrders_53 x1 x2 x3 x4 x5 x6 z0 z1 z2 z3 z4 z5 M = some (rv, Mf)) : V p l e (rmc 12 2342) s m args below meth c 14 G (u) (6 * (u)) (MQ below (gQ G (some (.int rv)) Mf) args s 2342 (6 * 2342) (gA G)) 53 [(0, .ref (adr G 6 0)), (1, .int x1), (2, .int x2), (3, .int x3), (4, .int x4), (5, .int x5), (6, .long x6)] [.int z0, .int z1, .int z2, .int z3, .int z4, .int z5, .ref (adr G 6 0)] M := by
  obtain ⟨q40, e40, h⟩ := bind_some h
  refine V_cL (K := 26) hC hX [.ref (adr G 6 0), .int z5, .int z4, .int z3, .int z2, .int z1, .int z0] (c_L_types (l := l) (rv := q40.1) (Mf := q40.2) hlt hC.2.2.2.2.2.2.2 e40) kd_L_types gw_1182 gw_1181 ⟨Nat.le_of_ble_eq_true rfl, Nat.le_of_ble_eq_true rfl⟩ rfl (Nat.le_of_ble_eq_true rfl) dL_areOrders_53 ⟨by show _ ≤ 2342; omega, by show _ ≤ 6 * 2342; omega⟩ rfl ?_
  refine V_if_eq hC 77 dL_areOrders_56 (by decide) (fun c41 => ?_) (fun c41 => ?_)
  · have h := ite_t c41 h
    refine V_widen (k := u + 26) (n := 6 * (u + 26)) (by omega) (by omega) ?_
    exact b_L_areOrders_77 hC hr hlk hX hlt (by omega) h
  · have h := ite_f c41 h
    refine V_aload_n hC dL_areOrders_59 rfl 0 rfl ?_
    refine V_bipush hC (98 : Int32) dL_areOrders_60 (by decide) ?_
    refine V_iconst hC (1 : Int32) dL_areOrders_62 (by decide) ?_
    refine V_iload_n hC dL_areOrders_63 rfl 3 rfl ?_
    refine V_iconst hC (0 : Int32) dL_areOrders_64 (by decide) ?_
    refine V_iconst hC (0 : Int32) dL_areOrders_65 (by decide) ?_
    refine V_iconst hC (0 : Int32) dL_areOrders_66 (by decide) ?_
    obtain ⟨q42, e42, h⟩ := bind_some h
    refine V_cL (K := 26) hC hX [.ref (adr G 6 0), .int (98 : Int32), .int (1 : Int32), .int x3, .int (0 : Int32), .int (0 : Int32), .int (0 : Int32)] (c_L_types (l := l) (rv := q42.1) (Mf := q42.2) hlt hC.2.2.2.2.2.2.2 e42) kd_L_types gw_1182 gw_1181 ⟨Nat.le_of_ble_eq_true rfl, Nat.le_of_ble_eq_true rfl⟩ rfl (Nat.le_of_ble_eq_true rfl) dL_areOrders_67 ⟨by show _ ≤ 2342; omega, by show _ ≤ 6 * 2342; omega⟩ rfl ?_
    refine V_if_eq hC 77 dL_areOrders_70 (by decide) (fun c43 => ?_) (fun c43 => ?_)
    · have h := ite_t c43 h
      refine V_widen (k := u + 52) (n := 6 * (u + 52)) (by omega) (by omega) ?_
      exact b_L_areOrders_77 hC hr hlk hX hlt (by omega) h
    · have h := ite_f c43 h
      refine V_iconst hC (1 : Int32) dL_areOrders_73 (by decide) ?_
      refine V_goto hC 78 dL_areOrders_74 (by decide) ?_
      refine V_widen (k := u + 52) (n := 6 * (u + 52)) (by omega) (by omega) ?_
      exact b_L_areOrders_78 hC hr hlk hX hlt (by omega) h
set_option maxRecDepth 100000 in
set_option maxHeartbeats 8000000 in
theorem c_L_areOrders {l : Launch} {G : Geo} {x1 : Int32} {x2 : Int32} {x3 : Int32} {x4 : Int32} {x5 : Int32} {rv : Int32} {Mf : Mem} {M : Mem} (hlt : l.stackTraces = false) (hG : gD G) (h : f_L_areOrders x1 x2 x3 x4 x5 M = some (rv, Mf)) : Met l yL_areOrders (.code yL_areOrders cL_areOrders 14 (some .boolean) :: GL) (rmc 12 2342) (gPx G [.ref (adr G 6 0), .int x1, .int x2, .int x3, .int x4, .int x5] M) (gQ G (some (.int rv)) Mf) 2342 (6 * 2342) (gA G) := by
  refine PMet_of (own := RL) (L := [(0, .ref (adr G 6 0)), (1, .int x1), (2, .int x2), (3, .int x3), (4, .int x4), (5, .int x5)]) hG (by decide +kernel) rfl (Nat.le_of_ble_eq_true rfl) rfl ?_
  intro p e s m args below meth c hC hX hr hlk
  obtain ⟨u, eu⟩ : ∃ u : Nat, u = 0 := ⟨0, rfl⟩
  have hu : u + 2342 ≤ 2342 := by omega
  refine V_u (u := u) eu ?_
  refine V_aload_n hC dL_areOrders_0 rfl 0 rfl ?_
  obtain ⟨q1, e1, h⟩ := bind_some h
  refine V_cL (K := 451) hC hX [.ref (adr G 6 0)] (c_L_print (l := l) (rv := q1.1) (Mf := q1.2) hlt hC.2.2.2.2.2.2.2 e1) kd_L_print gw_961 gw_960 ⟨Nat.le_of_ble_eq_true rfl, Nat.le_of_ble_eq_true rfl⟩ rfl (Nat.le_of_ble_eq_true rfl) dL_areOrders_1 ⟨by show _ ≤ 2342; omega, by show _ ≤ 6 * 2342; omega⟩ rfl ?_
  refine V_lstore hC ([(6, .long q1.1), (0, .ref (adr G 6 0)), (1, .int x1), (2, .int x2), (3, .int x3), (4, .int x4), (5, .int x5)]) dL_areOrders_4 (by decide) rfl ?_
  refine V_aload_n hC dL_areOrders_6 rfl 1 rfl ?_
  obtain ⟨q2, e2, h⟩ := bind_some h
  refine V_cVr hC [] (c_X8_clearText (l := l) (rv := q2.1) (Mf := q2.2) hC.2.2.2.2.2.2.2 e2) kd_X8_clearText kv_X8_clearText gw_1177 (r_s0_0).o rfl ⟨Nat.le_of_ble_eq_true rfl, Nat.le_of_ble_eq_true rfl⟩ rfl (Nat.le_of_ble_eq_true rfl) dL_areOrders_7 ⟨by show _ ≤ 2342; omega, by show _ ≤ 6 * 2342; omega⟩ rfl ?_
  refine V_if_lt hC 77 dL_areOrders_10 (by decide) (fun c3 => ?_) (fun c3 => ?_)
  · have h := ite_t c3 h
    refine V_sub [1, 2, 3, 4, 5, 6, 0] rfl ?_
    refine V_widen (k := u + 451) (n := 6 * (u + 451)) (by omega) (by omega) ?_
    exact b_L_areOrders_77 hC hr hlk hX hlt (by omega) h
  · have h := ite_f c3 h
    refine V_aload_n hC dL_areOrders_13 rfl 1 rfl ?_
    refine V_bipush hC (112 : Int32) dL_areOrders_14 (by decide) ?_
    refine V_iconst hC (1 : Int32) dL_areOrders_16 (by decide) ?_
    refine V_iload hC dL_areOrders_17 5 rfl ?_
    refine V_iconst hC (4 : Int32) dL_areOrders_19 (by decide) ?_
    refine V_irem hC dL_areOrders_20 (by decide) ?_
    refine V_iconst hC (0 : Int32) dL_areOrders_21 (by decide) ?_
    refine V_iconst hC (0 : Int32) dL_areOrders_22 (by decide) ?_
    refine V_iconst hC (0 : Int32) dL_areOrders_23 (by decide) ?_
    obtain ⟨q37, e37, h⟩ := bind_some h
    refine V_cL (K := 26) hC hX [.ref (adr G 6 0), .int (112 : Int32), .int (1 : Int32), .int (ireM x4 (4 : Int32)), .int (0 : Int32), .int (0 : Int32), .int (0 : Int32)] (c_L_types (l := l) (rv := q37.1) (Mf := q37.2) hlt hC.2.2.2.2.2.2.2 e37) kd_L_types gw_1182 gw_1181 ⟨Nat.le_of_ble_eq_true rfl, Nat.le_of_ble_eq_true rfl⟩ rfl (Nat.le_of_ble_eq_true rfl) dL_areOrders_24 ⟨by show _ ≤ 2342; omega, by show _ ≤ 6 * 2342; omega⟩ rfl ?_
    refine V_if_eq hC 77 dL_areOrders_27 (by decide) (fun c38 => ?_) (fun c38 => ?_)
    · have h := ite_t c38 h
      refine V_sub [1, 2, 3, 4, 5, 6, 0] rfl ?_
      refine V_widen (k := u + 477) (n := 6 * (u + 477)) (by omega) (by omega) ?_
      exact b_L_areOrders_77 hC hr hlk hX hlt (by omega) h
    · have h := ite_f c38 h
      refine V_aload_n hC dL_areOrders_30 rfl 1 rfl ?_
      refine V_bipush hC (113 : Int32) dL_areOrders_31 (by decide) ?_
      refine V_iconst hC (4 : Int32) dL_areOrders_33 (by decide) ?_
      refine V_iload_n hC dL_areOrders_34 rfl 2 rfl ?_
      refine V_iload_n hC dL_areOrders_35 rfl 3 rfl ?_
      refine V_iconst hC (1 : Int32) dL_areOrders_36 (by decide) ?_
      refine V_iload hC dL_areOrders_37 5 rfl ?_
      refine V_bipush hC (9 : Int32) dL_areOrders_39 (by decide) ?_
      refine V_irem hC dL_areOrders_41 (by decide) ?_
      refine V_iadd hC dL_areOrders_42 ?_
      refine V_iload hC dL_areOrders_43 6 rfl ?_
      refine V_if_eq hC 52 dL_areOrders_45 (by decide) (fun c39 => ?_) (fun c39 => ?_)
      · have h := ite_t c39 h
        refine V_iconst hC (0 : Int32) dL_areOrders_52 (by decide) ?_
        refine V_sub [1, 2, 3, 4, 5, 6, 0] rfl ?_
        refine V_widen (k := u + 477) (n := 6 * (u + 477)) (by omega) (by omega) ?_
        exact b_L_areOrders_53 hC hr hlk hX hlt (by omega) h
      · have h := ite_f c39 h
        refine V_iconst hC (1 : Int32) dL_areOrders_48 (by decide) ?_
        refine V_goto hC 53 dL_areOrders_49 (by decide) ?_
        refine V_sub [1, 2, 3, 4, 5, 6, 0] rfl ?_
        refine V_widen (k := u + 477) (n := 6 * (u + 477)) (by omega) (by omega) ?_
        exact b_L_areOrders_53 hC hr hlk hX hlt (by omega) h
end
