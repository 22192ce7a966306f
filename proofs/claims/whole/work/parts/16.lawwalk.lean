section
variable {p : Program} {l : Launch} {e : Env} {s : State} {m : MethodId} {below : List Frame} {meth : Method} {c : Code} {G : Geo}
theorem b_L_law_2323 {xs : Nat → Int32} {nS : Nat} {k : Nat} {b : Nat} {d0 : Drawn} {k23 : Int32 → Mem → Option Int32} {x4 : Int32} {M : Mem} (hC : Cx p (s.setDrawn d0) m #[Value.ref b] c code RL 7 G) (hr : meth.sig.returnType = ret) (hlk : meth.locks = false) (hX : XF G (s.setDrawn d0)) (hd0 : s.drawn.sameBut d0 lw_cs) (hlt : l.stackTraces = false) (hsc : va_X b nS xs (s.setDrawn d0) (s.setDrawn d0).heap) (hbl : b < (s.setDrawn d0).heap.size) (hbA : ¬ gA G b) (hgA : ∀ q, gA G q → s.heap.size ≤ q) (hkk : k ≤ 512) (hk23 : ∀ (x4 : Int32) (M : Mem), k23 x4 M = some 1 → V p l e room_1 (s.setDrawn d0) m #[Value.ref b] below meth c 7 G (K0 + (k + 1)) (K1 + 6 * (k + 1)) (lw_Z below #[Value.ref b] s) 23 [(0, .ref b), (1, .ref (adr G 6 0)), (2, .ref (adr G 7 0)), (3, .ref (adr G 8 0)), (4, .int x4)] [] M) (h : B_L_law_2323 xs nS k23 x4 M = some 1) : V p l e room_1 (s.setDrawn d0) m #[Value.ref b] below meth c 7 G (K0 + (k + 1)) (K1 + 6 * (k + 1)) (lw_Z below #[Value.ref b] s) 2323 [(0, .ref b), (1, .ref (adr G 6 0)), (2, .ref (adr G 7 0)), (3, .ref (adr G 8 0)), (4, .int x4)] [] M := by
  refine V_iinc hC (x4 + 5) ([(4, .int (x4 + 5)), (0, .ref b), (1, .ref (adr G 6 0)), (2, .ref (adr G 7 0)), (3, .ref (adr G 8 0))]) dL_law_2323 4 rfl rfl (by decide) rfl ?_
  refine V_goto hC 23 dL_law_2326 (by decide) ?_
  refine V_sub [1, 2, 3, 4, 0] rfl ?_
  exact hk23 _ _ h
theorem b_L_law_253 {xs : Nat → Int32} {nS : Nat} {k : Nat} {b : Nat} {d0 : Drawn} {k23 : Int32 → Mem → Option Int32} {x4 : Int32} {M : Mem} (hC : Cx p (s.setDrawn d0) m #[Value.ref b] c code RL 7 G) (hr : meth.sig.returnType = ret) (hlk : meth.locks = false) (hX : XF G (s.setDrawn d0)) (hd0 : s.drawn.sameBut d0 lw_cs) (hlt : l.stackTraces = false) (hsc : va_X b nS xs (s.setDrawn d0) (s.setDrawn d0).heap) (hbl : b < (s.setDrawn d0).heap.size) (hbA : ¬ gA G b) (hgA : ∀ q, gA G q → s.heap.size ≤ q) (hkk : k ≤ 512) (hk23 : ∀ (x4 : Int32) (M : Mem), k23 x4 M = some 1 → V p l e room_1 (s.setDrawn d0) m #[Value.ref b] below meth c 7 G (K0 + (k + 1)) (K1 + 6 * (k + 1)) (lw_Z below #[Value.ref b] s) 23 [(0, .ref b), (1, .ref (adr G 6 0)), (2, .ref (adr G 7 0)), (3, .ref (adr G 8 0)), (4, .int x4)] [] M) (h : B_L_law_253 xs nS k23 x4 M = some 1) : V p l e room_1 (s.setDrawn d0) m #[Value.ref b] below meth c 7 G (K0 + k + 1) (K1 + 6 * k + 6) (lw_Z below #[Value.ref b] s) 253 [(0, .ref b), (1, .ref (adr G 6 0)), (2, .ref (adr G 7 0)), (3, .ref (adr G 8 0)), (4, .int x4)] [] M := by
  refine V_goto hC 2323 dL_law_253 (by decide) ?_
  refine V_widen (k := K0 + (k + 1)) (n := K1 + 6 * (k + 1)) (by omega) (by omega) ?_
  exact b_L_law_2323 hC hr hlk hX hd0 hlt hsc hbl hbA hgA hkk hk23 h
theorem b_L_law_200 {xs : Nat → Int32} {nS : Nat} {k : Nat} {b : Nat} {d0 : Drawn} {k23 : Int32 → Mem → Option Int32} {x4 : Int32} {M : Mem} (hC : Cx p (s.setDrawn d0) m #[Value.ref b] c code RL 7 G) (hr : meth.sig.returnType = ret) (hlk : meth.locks = false) (hX : XF G (s.setDrawn d0)) (hd0 : s.drawn.sameBut d0 lw_cs) (hlt : l.stackTraces = false) (hsc : va_X b nS xs (s.setDrawn d0) (s.setDrawn d0).heap) (hbl : b < (s.setDrawn d0).heap.size) (hbA : ¬ gA G b) (hgA : ∀ q, gA G q → s.heap.size ≤ q) (hkk : k ≤ 512) (hk23 : ∀ (x4 : Int32) (M : Mem), k23 x4 M = some 1 → V p l e room_1 (s.setDrawn d0) m #[Value.ref b] below meth c 7 G (K0 + (k + 1)) (K1 + 6 * (k + 1)) (lw_Z below #[Value.ref b] s) 23 [(0, .ref b), (1, .ref (adr G 6 0)), (2, .ref (adr G 7 0)), (3, .ref (adr G 8 0)), (4, .int x4)] [] M) (h : B_L_law_200 xs nS k23 x4 M = some 1) : V p l e room_1 (s.setDrawn d0) m #[Value.ref b] below meth c 7 G (K0 + k) (K1 + 6 * k) (lw_Z below #[Value.ref b] s) 200 [(0, .ref b), (1, .ref (adr G 6 0)), (2, .ref (adr G 7 0)), (3, .ref (adr G 8 0)), (4, .int x4)] [] M := by
  refine V_aload_n hC dL_law_200 rfl 1 rfl ?_
  refine V_aload_n hC dL_law_201 rfl 0 rfl ?_
  refine V_iload hC dL_law_202 4 rfl ?_
  refine V_iconst hC (1 : Int32) dL_law_204 (by decide) ?_
  refine V_iadd hC dL_law_205 ?_
  obtain ⟨c4, h⟩ := ite_some h
  refine V_sld hC hsc hbl hbA c4 dL_law_206 ?_
  refine V_aload_n hC dL_law_207 rfl 3 rfl ?_
  obtain ⟨q5, e5, h⟩ := bind_some h
  refine V_cW hC hX [.ref (adr G 6 0), .int (xs (cl (x4 + (1 : Int32)))), .ref (adr G 8 0)] (c_L_addSection (l := l) (rv := q5.1) (Mf := q5.2) hlt hC.2.2.2.2.2.2.2 e5) kx_L_addSection gw_734 gw_733 ⟨Nat.le_of_ble_eq_true rfl, Nat.le_of_ble_eq_true rfl⟩ rfl (Nat.le_of_ble_eq_true rfl) dL_law_208 (law_rm hkk (by omega) (by omega)) rfl ?_
  refine V_istore hC ([(5, .int q5.1), (0, .ref b), (1, .ref (adr G 6 0)), (2, .ref (adr G 7 0)), (3, .ref (adr G 8 0)), (4, .int x4)]) dL_law_211 (by decide) rfl ?_
  refine V_aload_n hC dL_law_213 rfl 3 rfl ?_
  refine V_aload_n hC dL_law_214 rfl 1 rfl ?_
  refine V_iload hC dL_law_215 5 rfl ?_
  refine V_iconst hC (1 : Int32) dL_law_217 (by decide) ?_
  refine V_iadd hC dL_law_218 ?_
  obtain ⟨c6, h⟩ := ite_some h
  refine V_sld hC hsc hbl hbA c6 dL_law_219 ?_
  obtain ⟨q7, e7, h⟩ := bind_some h
  refine V_cVr hC [.int (xs (cl (x4 + (1 : Int32))))] (c_X9_addSection (l := l) (rv := q7.1) (Mf := q7.2) hC.2.2.2.2.2.2.2 e7) kd_X9_addSection kv_X9_addSection gw_1322 (r_m0_0).o rfl ⟨Nat.le_of_ble_eq_true rfl, Nat.le_of_ble_eq_true rfl⟩ rfl (Nat.le_of_ble_eq_true rfl) dL_law_220 (law_rm hkk (by omega) (by omega)) rfl ?_
  refine V_istore hC ([(6, .int q7.1), (5, .int q5.1), (0, .ref b), (1, .ref (adr G 6 0)), (2, .ref (adr G 7 0)), (3, .ref (adr G 8 0)), (4, .int x4)]) dL_law_223 (by decide) rfl ?_
  refine V_aload_n hC dL_law_225 rfl 4 rfl ?_
  refine V_cVr hC [] (c_X9_thrown (l := l) hC.2.2.2.2.2.2.2 rfl) kd_X9_thrown kv_X9_thrown gw_1310 (r_m0_0).o rfl ⟨Nat.le_of_ble_eq_true rfl, Nat.le_of_ble_eq_true rfl⟩ rfl (Nat.le_of_ble_eq_true rfl) dL_law_226 (law_rm hkk (by omega) (by omega)) rfl ?_
  refine V_iload hC dL_law_229 1 rfl ?_
  refine V_icmp_eq hC 236 dL_law_231 (by decide) (fun c9 => ?_) (fun c9 => ?_)
  · have h := ite_t c9 h
    refine V_iload hC dL_law_236 1 rfl ?_
    refine V_if_ne hC 253 dL_law_238 (by decide) (fun c10 => ?_) (fun c10 => ?_)
    · have h := ite_f c10 h
      refine V_sub [2, 3, 4, 5, 6] rfl ?_
      exact b_L_law_253 hC hr hlk hX hd0 hlt hsc hbl hbA hgA hkk hk23 h
    · have h := ite_t c10 h
      refine V_aload_n hC dL_law_241 rfl 5 rfl ?_
      refine V_iconst hC (0 : Int32) dL_law_242 (by decide) ?_
      refine V_lald hC rfl dL_law_243 ?_
      refine V_iload hC dL_law_244 0 rfl ?_
      refine V_i2l hC dL_law_246 ?_
      refine V_lcmp hC dL_law_247 ?_
      refine V_if_eq hC 253 dL_law_248 (by decide) (fun c11 => ?_) (fun c11 => ?_)
      · have h := ite_t c11 h
        refine V_sub [2, 3, 4, 5, 6] rfl ?_
        exact b_L_law_253 hC hr hlk hX hd0 hlt hsc hbl hbA hgA hkk hk23 h
      · have h := ite_f c11 h
        refine V_iconst hC (0 : Int32) dL_law_251 (by decide) ?_
        exact absurd h (by decide)
  · have h := ite_f c9 h
    refine V_iconst hC (0 : Int32) dL_law_234 (by decide) ?_
    exact absurd h (by decide)
theorem b_L_law_309 {xs : Nat → Int32} {nS : Nat} {k : Nat} {b : Nat} {d0 : Drawn} {k23 : Int32 → Mem → Option Int32} {x4 : Int32} {M : Mem} (hC : Cx p (s.setDrawn d0) m #[Value.ref b] c code RL 7 G) (hr : meth.sig.returnType = ret) (hlk : meth.locks = false) (hX : XF G (s.setDrawn d0)) (hd0 : s.drawn.sameBut d0 lw_cs) (hlt : l.stackTraces = false) (hsc : va_X b nS xs (s.setDrawn d0) (s.setDrawn d0).heap) (hbl : b < (s.setDrawn d0).heap.size) (hbA : ¬ gA G b) (hgA : ∀ q, gA G q → s.heap.size ≤ q) (hkk : k ≤ 512) (hk23 : ∀ (x4 : Int32) (M : Mem), k23 x4 M = some 1 → V p l e room_1 (s.setDrawn d0) m #[Value.ref b] below meth c 7 G (K0 + (k + 1)) (K1 + 6 * (k + 1)) (lw_Z below #[Value.ref b] s) 23 [(0, .ref b), (1, .ref (adr G 6 0)), (2, .ref (adr G 7 0)), (3, .ref (adr G 8 0)), (4, .int x4)] [] M) (h : B_L_law_309 xs nS k23 x4 M = some 1) : V p l e room_1 (s.setDrawn d0) m #[Value.ref b] below meth c 7 G (K0 + k + 1) (K1 + 6 * k + 6) (lw_Z below #[Value.ref b] s) 309 [(0, .ref b), (1, .ref (adr G 6 0)), (2, .ref (adr G 7 0)), (3, .ref (adr G 8 0)), (4, .int x4)] [] M := by
  refine V_goto hC 2323 dL_law_309 (by decide) ?_
  refine V_widen (k := K0 + (k + 1)) (n := K1 + 6 * (k + 1)) (by omega) (by omega) ?_
  exact b_L_law_2323 hC hr hlk hX hd0 hlt hsc hbl hbA hgA hkk hk23 h
theorem b_L_law_256 {xs : Nat → Int32} {nS : Nat} {k : Nat} {b : Nat} {d0 : Drawn} {k23 : Int32 → Mem → Option Int32} {x4 : Int32} {M : Mem} (hC : Cx p (s.setDrawn d0) m #[Value.ref b] c code RL 7 G) (hr : meth.sig.returnType = ret) (hlk : meth.locks = false) (hX : XF G (s.setDrawn d0)) (hd0 : s.drawn.sameBut d0 lw_cs) (hlt : l.stackTraces = false) (hsc : va_X b nS xs (s.setDrawn d0) (s.setDrawn d0).heap) (hbl : b < (s.setDrawn d0).heap.size) (hbA : ¬ gA G b) (hgA : ∀ q, gA G q → s.heap.size ≤ q) (hkk : k ≤ 512) (hk23 : ∀ (x4 : Int32) (M : Mem), k23 x4 M = some 1 → V p l e room_1 (s.setDrawn d0) m #[Value.ref b] below meth c 7 G (K0 + (k + 1)) (K1 + 6 * (k + 1)) (lw_Z below #[Value.ref b] s) 23 [(0, .ref b), (1, .ref (adr G 6 0)), (2, .ref (adr G 7 0)), (3, .ref (adr G 8 0)), (4, .int x4)] [] M) (h : B_L_law_256 xs nS k23 x4 M = some 1) : V p l e room_1 (s.setDrawn d0) m #[Value.ref b] below meth c 7 G (K0 + k) (K1 + 6 * k) (lw_Z below #[Value.ref b] s) 256 [(0, .ref b), (1, .ref (adr G 6 0)), (2, .ref (adr G 7 0)), (3, .ref (adr G 8 0)), (4, .int x4)] [] M := by
  refine V_aload_n hC dL_law_256 rfl 1 rfl ?_
  refine V_aload_n hC dL_law_257 rfl 0 rfl ?_
  refine V_iload hC dL_law_258 4 rfl ?_
  refine V_iconst hC (1 : Int32) dL_law_260 (by decide) ?_
  refine V_iadd hC dL_law_261 ?_
  obtain ⟨c13, h⟩ := ite_some h
  refine V_sld hC hsc hbl hbA c13 dL_law_262 ?_
  refine V_aload_n hC dL_law_263 rfl 3 rfl ?_
  obtain ⟨q14, e14, h⟩ := bind_some h
  refine V_cW hC hX [.ref (adr G 6 0), .int (xs (cl (x4 + (1 : Int32)))), .ref (adr G 8 0)] (c_L_removeSection (l := l) (rv := q14.1) (Mf := q14.2) hlt hC.2.2.2.2.2.2.2 e14) kx_L_removeSection gw_876 gw_875 ⟨Nat.le_of_ble_eq_true rfl, Nat.le_of_ble_eq_true rfl⟩ rfl (Nat.le_of_ble_eq_true rfl) dL_law_264 (law_rm hkk (by omega) (by omega)) rfl ?_
  refine V_istore hC ([(5, .int q14.1), (0, .ref b), (1, .ref (adr G 6 0)), (2, .ref (adr G 7 0)), (3, .ref (adr G 8 0)), (4, .int x4)]) dL_law_267 (by decide) rfl ?_
  refine V_aload_n hC dL_law_269 rfl 3 rfl ?_
  refine V_aload_n hC dL_law_270 rfl 1 rfl ?_
  refine V_iload hC dL_law_271 5 rfl ?_
  refine V_iconst hC (1 : Int32) dL_law_273 (by decide) ?_
  refine V_iadd hC dL_law_274 ?_
  obtain ⟨c15, h⟩ := ite_some h
  refine V_sld hC hsc hbl hbA c15 dL_law_275 ?_
  obtain ⟨q16, e16, h⟩ := bind_some h
  refine V_cVr hC [.int (xs (cl (x4 + (1 : Int32))))] (c_X9_removeSection (l := l) (rv := q16.1) (Mf := q16.2) hC.2.2.2.2.2.2.2 e16) kd_X9_removeSection kv_X9_removeSection gw_1367 (r_m0_0).o rfl ⟨Nat.le_of_ble_eq_true rfl, Nat.le_of_ble_eq_true rfl⟩ rfl (Nat.le_of_ble_eq_true rfl) dL_law_276 (law_rm hkk (by omega) (by omega)) rfl ?_
  refine V_istore hC ([(6, .int q16.1), (5, .int q14.1), (0, .ref b), (1, .ref (adr G 6 0)), (2, .ref (adr G 7 0)), (3, .ref (adr G 8 0)), (4, .int x4)]) dL_law_279 (by decide) rfl ?_
  refine V_aload_n hC dL_law_281 rfl 4 rfl ?_
  refine V_cVr hC [] (c_X9_thrown (l := l) hC.2.2.2.2.2.2.2 rfl) kd_X9_thrown kv_X9_thrown gw_1310 (r_m0_0).o rfl ⟨Nat.le_of_ble_eq_true rfl, Nat.le_of_ble_eq_true rfl⟩ rfl (Nat.le_of_ble_eq_true rfl) dL_law_282 (law_rm hkk (by omega) (by omega)) rfl ?_
  refine V_iload hC dL_law_285 1 rfl ?_
  refine V_icmp_eq hC 292 dL_law_287 (by decide) (fun c18 => ?_) (fun c18 => ?_)
  · have h := ite_t c18 h
    refine V_iload hC dL_law_292 1 rfl ?_
    refine V_if_ne hC 309 dL_law_294 (by decide) (fun c19 => ?_) (fun c19 => ?_)
    · have h := ite_f c19 h
      refine V_sub [2, 3, 4, 5, 6] rfl ?_
      exact b_L_law_309 hC hr hlk hX hd0 hlt hsc hbl hbA hgA hkk hk23 h
    · have h := ite_t c19 h
      refine V_aload_n hC dL_law_297 rfl 5 rfl ?_
      refine V_iconst hC (0 : Int32) dL_law_298 (by decide) ?_
      refine V_lald hC rfl dL_law_299 ?_
      refine V_iload hC dL_law_300 0 rfl ?_
      refine V_i2l hC dL_law_302 ?_
      refine V_lcmp hC dL_law_303 ?_
      refine V_if_eq hC 309 dL_law_304 (by decide) (fun c20 => ?_) (fun c20 => ?_)
      · have h := ite_t c20 h
        refine V_sub [2, 3, 4, 5, 6] rfl ?_
        exact b_L_law_309 hC hr hlk hX hd0 hlt hsc hbl hbA hgA hkk hk23 h
      · have h := ite_f c20 h
        refine V_iconst hC (0 : Int32) dL_law_307 (by decide) ?_
        exact absurd h (by decide)
  · have h := ite_f c18 h
    refine V_iconst hC (0 : Int32) dL_law_290 (by decide) ?_
    exact absurd h (by decide)
theorem b_L_law_377 {xs : Nat → Int32} {nS : Nat} {k : Nat} {b : Nat} {d0 : Drawn} {k23 : Int32 → Mem → Option Int32} {x4 : Int32} {M : Mem} (hC : Cx p (s.setDrawn d0) m #[Value.ref b] c code RL 7 G) (hr : meth.sig.returnType = ret) (hlk : meth.locks = false) (hX : XF G (s.setDrawn d0)) (hd0 : s.drawn.sameBut d0 lw_cs) (hlt : l.stackTraces = false) (hsc : va_X b nS xs (s.setDrawn d0) (s.setDrawn d0).heap) (hbl : b < (s.setDrawn d0).heap.size) (hbA : ¬ gA G b) (hgA : ∀ q, gA G q → s.heap.size ≤ q) (hkk : k ≤ 512) (hk23 : ∀ (x4 : Int32) (M : Mem), k23 x4 M = some 1 → V p l e room_1 (s.setDrawn d0) m #[Value.ref b] below meth c 7 G (K0 + (k + 1)) (K1 + 6 * (k + 1)) (lw_Z below #[Value.ref b] s) 23 [(0, .ref b), (1, .ref (adr G 6 0)), (2, .ref (adr G 7 0)), (3, .ref (adr G 8 0)), (4, .int x4)] [] M) (h : B_L_law_377 xs nS k23 x4 M = some 1) : V p l e room_1 (s.setDrawn d0) m #[Value.ref b] below meth c 7 G (K0 + k + 1) (K1 + 6 * k + 6) (lw_Z below #[Value.ref b] s) 377 [(0, .ref b), (1, .ref (adr G 6 0)), (2, .ref (adr G 7 0)), (3, .ref (adr G 8 0)), (4, .int x4)] [] M := by
  refine V_goto hC 2323 dL_law_377 (by decide) ?_
  refine V_widen (k := K0 + (k + 1)) (n := K1 + 6 * (k + 1)) (by omega) (by omega) ?_
  exact b_L_law_2323 hC hr hlk hX hd0 hlt hsc hbl hbA hgA hkk hk23 h
theorem b_L_law_312 {xs : Nat → Int32} {nS : Nat} {k : Nat} {b : Nat} {d0 : Drawn} {k23 : Int32 → Mem → Option Int32} {x4 : Int32} {M : Mem} (hC : Cx p (s.setDrawn d0) m #[Value.ref b] c code RL 7 G) (hr : meth.sig.returnType = ret) (hlk : meth.locks = false) (hX : XF G (s.setDrawn d0)) (hd0 : s.drawn.sameBut d0 lw_cs) (hlt : l.stackTraces = false) (hsc : va_X b nS xs (s.setDrawn d0) (s.setDrawn d0).heap) (hbl : b < (s.setDrawn d0).heap.size) (hbA : ¬ gA G b) (hgA : ∀ q, gA G q → s.heap.size ≤ q) (hkk : k ≤ 512) (hk23 : ∀ (x4 : Int32) (M : Mem), k23 x4 M = some 1 → V p l e room_1 (s.setDrawn d0) m #[Value.ref b] below meth c 7 G (K0 + (k + 1)) (K1 + 6 * (k + 1)) (lw_Z below #[Value.ref b] s) 23 [(0, .ref b), (1, .ref (adr G 6 0)), (2, .ref (adr G 7 0)), (3, .ref (adr G 8 0)), (4, .int x4)] [] M) (h : B_L_law_312 xs nS k23 x4 M = some 1) : V p l e room_1 (s.setDrawn d0) m #[Value.ref b] below meth c 7 G (K0 + k) (K1 + 6 * k) (lw_Z below #[Value.ref b] s) 312 [(0, .ref b), (1, .ref (adr G 6 0)), (2, .ref (adr G 7 0)), (3, .ref (adr G 8 0)), (4, .int x4)] [] M := by
  refine V_aload_n hC dL_law_312 rfl 1 rfl ?_
  refine V_aload_n hC dL_law_313 rfl 0 rfl ?_
  refine V_iload hC dL_law_314 4 rfl ?_
  refine V_iconst hC (1 : Int32) dL_law_316 (by decide) ?_
  refine V_iadd hC dL_law_317 ?_
  obtain ⟨c22, h⟩ := ite_some h
  refine V_sld hC hsc hbl hbA c22 dL_law_318 ?_
  refine V_aload_n hC dL_law_319 rfl 0 rfl ?_
  refine V_iload hC dL_law_320 4 rfl ?_
  refine V_iconst hC (2 : Int32) dL_law_322 (by decide) ?_
  refine V_iadd hC dL_law_323 ?_
  obtain ⟨c23, h⟩ := ite_some h
  refine V_sld hC hsc hbl hbA c23 dL_law_324 ?_
  refine V_aload_n hC dL_law_325 rfl 3 rfl ?_
  obtain ⟨q24, e24, h⟩ := bind_some h
  refine V_cW hC hX [.ref (adr G 6 0), .int (xs (cl (x4 + (1 : Int32)))), .int (xs (cl (x4 + (2 : Int32)))), .ref (adr G 8 0)] (c_L_moveSection (l := l) (rv := q24.1) (Mf := q24.2) hlt hC.2.2.2.2.2.2.2 e24) kx_L_moveSection gw_907 gw_906 ⟨Nat.le_of_ble_eq_true rfl, Nat.le_of_ble_eq_true rfl⟩ rfl (Nat.le_of_ble_eq_true rfl) dL_law_326 (law_rm hkk (by omega) (by omega)) rfl ?_
  refine V_istore hC ([(5, .int q24.1), (0, .ref b), (1, .ref (adr G 6 0)), (2, .ref (adr G 7 0)), (3, .ref (adr G 8 0)), (4, .int x4)]) dL_law_329 (by decide) rfl ?_
  refine V_aload_n hC dL_law_331 rfl 3 rfl ?_
  refine V_aload_n hC dL_law_332 rfl 1 rfl ?_
  refine V_iload hC dL_law_333 5 rfl ?_
  refine V_iconst hC (1 : Int32) dL_law_335 (by decide) ?_
  refine V_iadd hC dL_law_336 ?_
  obtain ⟨c25, h⟩ := ite_some h
  refine V_sld hC hsc hbl hbA c25 dL_law_337 ?_
  refine V_aload_n hC dL_law_338 rfl 1 rfl ?_
  refine V_iload hC dL_law_339 5 rfl ?_
  refine V_iconst hC (2 : Int32) dL_law_341 (by decide) ?_
  refine V_iadd hC dL_law_342 ?_
  obtain ⟨c26, h⟩ := ite_some h
  refine V_sld hC hsc hbl hbA c26 dL_law_343 ?_
  obtain ⟨q27, e27, h⟩ := bind_some h
  refine V_cVr hC [.int (xs (cl (x4 + (1 : Int32)))), .int (xs (cl (x4 + (2 : Int32))))] (c_X9_moveSection (l := l) (rv := q27.1) (Mf := q27.2) hC.2.2.2.2.2.2.2 e27) kd_X9_moveSection kv_X9_moveSection gw_1387 (r_m0_0).o rfl ⟨Nat.le_of_ble_eq_true rfl, Nat.le_of_ble_eq_true rfl⟩ rfl (Nat.le_of_ble_eq_true rfl) dL_law_344 (law_rm hkk (by omega) (by omega)) rfl ?_
  refine V_istore hC ([(6, .int q27.1), (5, .int q24.1), (0, .ref b), (1, .ref (adr G 6 0)), (2, .ref (adr G 7 0)), (3, .ref (adr G 8 0)), (4, .int x4)]) dL_law_347 (by decide) rfl ?_
  refine V_aload_n hC dL_law_349 rfl 4 rfl ?_
  refine V_cVr hC [] (c_X9_thrown (l := l) hC.2.2.2.2.2.2.2 rfl) kd_X9_thrown kv_X9_thrown gw_1310 (r_m0_0).o rfl ⟨Nat.le_of_ble_eq_true rfl, Nat.le_of_ble_eq_true rfl⟩ rfl (Nat.le_of_ble_eq_true rfl) dL_law_350 (law_rm hkk (by omega) (by omega)) rfl ?_
  refine V_iload hC dL_law_353 1 rfl ?_
  refine V_icmp_eq hC 360 dL_law_355 (by decide) (fun c29 => ?_) (fun c29 => ?_)
  · have h := ite_t c29 h
    refine V_iload hC dL_law_360 1 rfl ?_
    refine V_if_ne hC 377 dL_law_362 (by decide) (fun c30 => ?_) (fun c30 => ?_)
    · have h := ite_f c30 h
      refine V_sub [2, 3, 4, 5, 6] rfl ?_
      exact b_L_law_377 hC hr hlk hX hd0 hlt hsc hbl hbA hgA hkk hk23 h
    · have h := ite_t c30 h
      refine V_aload_n hC dL_law_365 rfl 5 rfl ?_
      refine V_iconst hC (0 : Int32) dL_law_366 (by decide) ?_
      refine V_lald hC rfl dL_law_367 ?_
      refine V_iload hC dL_law_368 0 rfl ?_
      refine V_i2l hC dL_law_370 ?_
      refine V_lcmp hC dL_law_371 ?_
      refine V_if_eq hC 377 dL_law_372 (by decide) (fun c31 => ?_) (fun c31 => ?_)
      · have h := ite_t c31 h
        refine V_sub [2, 3, 4, 5, 6] rfl ?_
        exact b_L_law_377 hC hr hlk hX hd0 hlt hsc hbl hbA hgA hkk hk23 h
      · have h := ite_f c31 h
        refine V_iconst hC (0 : Int32) dL_law_375 (by decide) ?_
        exact absurd h (by decide)
  · have h := ite_f c29 h
    refine V_iconst hC (0 : Int32) dL_law_358 (by decide) ?_
    exact absurd h (by decide)
theorem b_L_law_380 {xs : Nat → Int32} {nS : Nat} {k : Nat} {b : Nat} {d0 : Drawn} {k23 : Int32 → Mem → Option Int32} {x4 : Int32} {M : Mem} (hC : Cx p (s.setDrawn d0) m #[Value.ref b] c code RL 7 G) (hr : meth.sig.returnType = ret) (hlk : meth.locks = false) (hX : XF G (s.setDrawn d0)) (hd0 : s.drawn.sameBut d0 lw_cs) (hlt : l.stackTraces = false) (hsc : va_X b nS xs (s.setDrawn d0) (s.setDrawn d0).heap) (hbl : b < (s.setDrawn d0).heap.size) (hbA : ¬ gA G b) (hgA : ∀ q, gA G q → s.heap.size ≤ q) (hkk : k ≤ 512) (hk23 : ∀ (x4 : Int32) (M : Mem), k23 x4 M = some 1 → V p l e room_1 (s.setDrawn d0) m #[Value.ref b] below meth c 7 G (K0 + (k + 1)) (K1 + 6 * (k + 1)) (lw_Z below #[Value.ref b] s) 23 [(0, .ref b), (1, .ref (adr G 6 0)), (2, .ref (adr G 7 0)), (3, .ref (adr G 8 0)), (4, .int x4)] [] M) (h : B_L_law_380 xs nS k23 x4 M = some 1) : V p l e room_1 (s.setDrawn d0) m #[Value.ref b] below meth c 7 G (K0 + k) (K1 + 6 * k) (lw_Z below #[Value.ref b] s) 380 [(0, .ref b), (1, .ref (adr G 6 0)), (2, .ref (adr G 7 0)), (3, .ref (adr G 8 0)), (4, .int x4)] [] M := by
  refine V_aload_n hC dL_law_380 rfl 1 rfl ?_
  refine V_cVr hC [] (c_X8_sections (l := l) hC.2.2.2.2.2.2.2 rfl) kd_X8_sections kv_X8_sections gw_230 (r_s0_0).o rfl ⟨Nat.le_of_ble_eq_true rfl, Nat.le_of_ble_eq_true rfl⟩ rfl (Nat.le_of_ble_eq_true rfl) dL_law_381 (law_rm hkk (by omega) (by omega)) rfl ?_
  refine V_aload_n hC dL_law_384 rfl 2 rfl ?_
  obtain ⟨q34, e34, h⟩ := bind_some h
  refine V_cVr hC [] (c_X9_sections (l := l) (rv := q34.1) (Mf := q34.2) hC.2.2.2.2.2.2.2 e34) kd_X9_sections kv_X9_sections gw_1395 (r_m0_0).o rfl ⟨Nat.le_of_ble_eq_true rfl, Nat.le_of_ble_eq_true rfl⟩ rfl (Nat.le_of_ble_eq_true rfl) dL_law_385 (law_rm hkk (by omega) (by omega)) rfl ?_
  refine V_icmp_eq hC 2323 dL_law_388 (by decide) (fun c35 => ?_) (fun c35 => ?_)
  · have h := ite_t c35 h
    refine V_widen (k := K0 + (k + 1)) (n := K1 + 6 * (k + 1)) (by omega) (by omega) ?_
    exact b_L_law_2323 hC hr hlk hX hd0 hlt hsc hbl hbA hgA hkk hk23 h
  · have h := ite_f c35 h
    refine V_iconst hC (0 : Int32) dL_law_391 (by decide) ?_
    exact absurd h (by decide)
theorem b_L_law_458 {xs : Nat → Int32} {nS : Nat} {k : Nat} {b : Nat} {d0 : Drawn} {k23 : Int32 → Mem → Option Int32} {x4 : Int32} {M : Mem} (hC : Cx p (s.setDrawn d0) m #[Value.ref b] c code RL 7 G) (hr : meth.sig.returnType = ret) (hlk : meth.locks = false) (hX : XF G (s.setDrawn d0)) (hd0 : s.drawn.sameBut d0 lw_cs) (hlt : l.stackTraces = false) (hsc : va_X b nS xs (s.setDrawn d0) (s.setDrawn d0).heap) (hbl : b < (s.setDrawn d0).heap.size) (hbA : ¬ gA G b) (hgA : ∀ q, gA G q → s.heap.size ≤ q) (hkk : k ≤ 512) (hk23 : ∀ (x4 : Int32) (M : Mem), k23 x4 M = some 1 → V p l e room_1 (s.setDrawn d0) m #[Value.ref b] below meth c 7 G (K0 + (k + 1)) (K1 + 6 * (k + 1)) (lw_Z below #[Value.ref b] s) 23 [(0, .ref b), (1, .ref (adr G 6 0)), (2, .ref (adr G 7 0)), (3, .ref (adr G 8 0)), (4, .int x4)] [] M) (h : B_L_law_458 xs nS k23 x4 M = some 1) : V p l e room_1 (s.setDrawn d0) m #[Value.ref b] below meth c 7 G (K0 + k + 1) (K1 + 6 * k + 6) (lw_Z below #[Value.ref b] s) 458 [(0, .ref b), (1, .ref (adr G 6 0)), (2, .ref (adr G 7 0)), (3, .ref (adr G 8 0)), (4, .int x4)] [] M := by
  refine V_goto hC 2323 dL_law_458 (by decide) ?_
  refine V_widen (k := K0 + (k + 1)) (n := K1 + 6 * (k + 1)) (by omega) (by omega) ?_
  exact b_L_law_2323 hC hr hlk hX hd0 hlt hsc hbl hbA hgA hkk hk23 h
theorem b_L_law_393 {xs : Nat → Int32} {nS : Nat} {k : Nat} {b : Nat} {d0 : Drawn} {k23 : Int32 → Mem → Option Int32} {x4 : Int32} {M : Mem} (hC : Cx p (s.setDrawn d0) m #[Value.ref b] c code RL 7 G) (hr : meth.sig.returnType = ret) (hlk : meth.locks = false) (hX : XF G (s.setDrawn d0)) (hd0 : s.drawn.sameBut d0 lw_cs) (hlt : l.stackTraces = false) (hsc : va_X b nS xs (s.setDrawn d0) (s.setDrawn d0).heap) (hbl : b < (s.setDrawn d0).heap.size) (hbA : ¬ gA G b) (hgA : ∀ q, gA G q → s.heap.size ≤ q) (hkk : k ≤ 512) (hk23 : ∀ (x4 : Int32) (M : Mem), k23 x4 M = some 1 → V p l e room_1 (s.setDrawn d0) m #[Value.ref b] below meth c 7 G (K0 + (k + 1)) (K1 + 6 * (k + 1)) (lw_Z below #[Value.ref b] s) 23 [(0, .ref b), (1, .ref (adr G 6 0)), (2, .ref (adr G 7 0)), (3, .ref (adr G 8 0)), (4, .int x4)] [] M) (h : B_L_law_393 xs nS k23 x4 M = some 1) : V p l e room_1 (s.setDrawn d0) m #[Value.ref b] below meth c 7 G (K0 + k) (K1 + 6 * k) (lw_Z below #[Value.ref b] s) 393 [(0, .ref b), (1, .ref (adr G 6 0)), (2, .ref (adr G 7 0)), (3, .ref (adr G 8 0)), (4, .int x4)] [] M := by
  refine V_aload_n hC dL_law_393 rfl 1 rfl ?_
  refine V_aload_n hC dL_law_394 rfl 0 rfl ?_
  refine V_iload hC dL_law_395 4 rfl ?_
  refine V_iconst hC (1 : Int32) dL_law_397 (by decide) ?_
  refine V_iadd hC dL_law_398 ?_
  obtain ⟨c37, h⟩ := ite_some h
  refine V_sld hC hsc hbl hbA c37 dL_law_399 ?_
  refine V_aload_n hC dL_law_400 rfl 0 rfl ?_
  refine V_iload hC dL_law_401 4 rfl ?_
  refine V_iconst hC (2 : Int32) dL_law_403 (by decide) ?_
  refine V_iadd hC dL_law_404 ?_
  obtain ⟨c38, h⟩ := ite_some h
  refine V_sld hC hsc hbl hbA c38 dL_law_405 ?_
  refine V_aload_n hC dL_law_406 rfl 3 rfl ?_
  obtain ⟨q39, e39, h⟩ := bind_some h
  refine V_cW hC hX [.ref (adr G 6 0), .int (xs (cl (x4 + (1 : Int32)))), .int (xs (cl (x4 + (2 : Int32)))), .ref (adr G 8 0)] (c_L_section (l := l) (rv := q39.1) (Mf := q39.2) hlt hC.2.2.2.2.2.2.2 e39) kx_L_section gw_931 gw_930 ⟨Nat.le_of_ble_eq_true rfl, Nat.le_of_ble_eq_true rfl⟩ rfl (Nat.le_of_ble_eq_true rfl) dL_law_407 (law_rm hkk (by omega) (by omega)) rfl ?_
  refine V_istore hC ([(5, .int q39.1), (0, .ref b), (1, .ref (adr G 6 0)), (2, .ref (adr G 7 0)), (3, .ref (adr G 8 0)), (4, .int x4)]) dL_law_410 (by decide) rfl ?_
  refine V_aload_n hC dL_law_412 rfl 3 rfl ?_
  refine V_aload_n hC dL_law_413 rfl 1 rfl ?_
  refine V_iload hC dL_law_414 5 rfl ?_
  refine V_iconst hC (1 : Int32) dL_law_416 (by decide) ?_
  refine V_iadd hC dL_law_417 ?_
  obtain ⟨c40, h⟩ := ite_some h
  refine V_sld hC hsc hbl hbA c40 dL_law_418 ?_
  refine V_aload_n hC dL_law_419 rfl 1 rfl ?_
  refine V_iload hC dL_law_420 5 rfl ?_
  refine V_iconst hC (2 : Int32) dL_law_422 (by decide) ?_
  refine V_iadd hC dL_law_423 ?_
  obtain ⟨c41, h⟩ := ite_some h
  refine V_sld hC hsc hbl hbA c41 dL_law_424 ?_
  obtain ⟨q42, e42, h⟩ := bind_some h
  refine V_cVr hC [.int (xs (cl (x4 + (1 : Int32)))), .int (xs (cl (x4 + (2 : Int32))))] (c_X9_section (l := l) (rv := q42.1) (Mf := q42.2) hC.2.2.2.2.2.2.2 e42) kd_X9_section kv_X9_section gw_1399 (r_m0_0).o rfl ⟨Nat.le_of_ble_eq_true rfl, Nat.le_of_ble_eq_true rfl⟩ rfl (Nat.le_of_ble_eq_true rfl) dL_law_425 (law_rm hkk (by omega) (by omega)) rfl ?_
  refine V_istore hC ([(6, .int q42.1), (5, .int q39.1), (0, .ref b), (1, .ref (adr G 6 0)), (2, .ref (adr G 7 0)), (3, .ref (adr G 8 0)), (4, .int x4)]) dL_law_428 (by decide) rfl ?_
  refine V_aload_n hC dL_law_430 rfl 4 rfl ?_
  refine V_cVr hC [] (c_X9_thrown (l := l) hC.2.2.2.2.2.2.2 rfl) kd_X9_thrown kv_X9_thrown gw_1310 (r_m0_0).o rfl ⟨Nat.le_of_ble_eq_true rfl, Nat.le_of_ble_eq_true rfl⟩ rfl (Nat.le_of_ble_eq_true rfl) dL_law_431 (law_rm hkk (by omega) (by omega)) rfl ?_
  refine V_iload hC dL_law_434 1 rfl ?_
  refine V_icmp_eq hC 441 dL_law_436 (by decide) (fun c44 => ?_) (fun c44 => ?_)
  · have h := ite_t c44 h
    refine V_iload hC dL_law_441 1 rfl ?_
    refine V_if_ne hC 458 dL_law_443 (by decide) (fun c45 => ?_) (fun c45 => ?_)
    · have h := ite_f c45 h
      refine V_sub [2, 3, 4, 5, 6] rfl ?_
      exact b_L_law_458 hC hr hlk hX hd0 hlt hsc hbl hbA hgA hkk hk23 h
    · have h := ite_t c45 h
      refine V_aload_n hC dL_law_446 rfl 5 rfl ?_
      refine V_iconst hC (0 : Int32) dL_law_447 (by decide) ?_
      refine V_lald hC rfl dL_law_448 ?_
      refine V_iload hC dL_law_449 0 rfl ?_
      refine V_i2l hC dL_law_451 ?_
      refine V_lcmp hC dL_law_452 ?_
      refine V_if_eq hC 458 dL_law_453 (by decide) (fun c46 => ?_) (fun c46 => ?_)
      · have h := ite_t c46 h
        refine V_sub [2, 3, 4, 5, 6] rfl ?_
        exact b_L_law_458 hC hr hlk hX hd0 hlt hsc hbl hbA hgA hkk hk23 h
      · have h := ite_f c46 h
        refine V_iconst hC (0 : Int32) dL_law_456 (by decide) ?_
        exact absurd h (by decide)
  · have h := ite_f c44 h
    refine V_iconst hC (0 : Int32) dL_law_439 (by decide) ?_
    exact absurd h (by decide)
theorem b_L_law_526 {xs : Nat → Int32} {nS : Nat} {k : Nat} {b : Nat} {d0 : Drawn} {k23 : Int32 → Mem → Option Int32} {x4 : Int32} {M : Mem} (hC : Cx p (s.setDrawn d0) m #[Value.ref b] c code RL 7 G) (hr : meth.sig.returnType = ret) (hlk : meth.locks = false) (hX : XF G (s.setDrawn d0)) (hd0 : s.drawn.sameBut d0 lw_cs) (hlt : l.stackTraces = false) (hsc : va_X b nS xs (s.setDrawn d0) (s.setDrawn d0).heap) (hbl : b < (s.setDrawn d0).heap.size) (hbA : ¬ gA G b) (hgA : ∀ q, gA G q → s.heap.size ≤ q) (hkk : k ≤ 512) (hk23 : ∀ (x4 : Int32) (M : Mem), k23 x4 M = some 1 → V p l e room_1 (s.setDrawn d0) m #[Value.ref b] below meth c 7 G (K0 + (k + 1)) (K1 + 6 * (k + 1)) (lw_Z below #[Value.ref b] s) 23 [(0, .ref b), (1, .ref (adr G 6 0)), (2, .ref (adr G 7 0)), (3, .ref (adr G 8 0)), (4, .int x4)] [] M) (h : B_L_law_526 xs nS k23 x4 M = some 1) : V p l e room_1 (s.setDrawn d0) m #[Value.ref b] below meth c 7 G (K0 + k + 1) (K1 + 6 * k + 6) (lw_Z below #[Value.ref b] s) 526 [(0, .ref b), (1, .ref (adr G 6 0)), (2, .ref (adr G 7 0)), (3, .ref (adr G 8 0)), (4, .int x4)] [] M := by
  refine V_goto hC 2323 dL_law_526 (by decide) ?_
  refine V_widen (k := K0 + (k + 1)) (n := K1 + 6 * (k + 1)) (by omega) (by omega) ?_
  exact b_L_law_2323 hC hr hlk hX hd0 hlt hsc hbl hbA hgA hkk hk23 h
theorem b_L_law_461 {xs : Nat → Int32} {nS : Nat} {k : Nat} {b : Nat} {d0 : Drawn} {k23 : Int32 → Mem → Option Int32} {x4 : Int32} {M : Mem} (hC : Cx p (s.setDrawn d0) m #[Value.ref b] c code RL 7 G) (hr : meth.sig.returnType = ret) (hlk : meth.locks = false) (hX : XF G (s.setDrawn d0)) (hd0 : s.drawn.sameBut d0 lw_cs) (hlt : l.stackTraces = false) (hsc : va_X b nS xs (s.setDrawn d0) (s.setDrawn d0).heap) (hbl : b < (s.setDrawn d0).heap.size) (hbA : ¬ gA G b) (hgA : ∀ q, gA G q → s.heap.size ≤ q) (hkk : k ≤ 512) (hk23 : ∀ (x4 : Int32) (M : Mem), k23 x4 M = some 1 → V p l e room_1 (s.setDrawn d0) m #[Value.ref b] below meth c 7 G (K0 + (k + 1)) (K1 + 6 * (k + 1)) (lw_Z below #[Value.ref b] s) 23 [(0, .ref b), (1, .ref (adr G 6 0)), (2, .ref (adr G 7 0)), (3, .ref (adr G 8 0)), (4, .int x4)] [] M) (h : B_L_law_461 xs nS k23 x4 M = some 1) : V p l e room_1 (s.setDrawn d0) m #[Value.ref b] below meth c 7 G (K0 + k) (K1 + 6 * k) (lw_Z below #[Value.ref b] s) 461 [(0, .ref b), (1, .ref (adr G 6 0)), (2, .ref (adr G 7 0)), (3, .ref (adr G 8 0)), (4, .int x4)] [] M := by
  refine V_aload_n hC dL_law_461 rfl 1 rfl ?_
  refine V_aload_n hC dL_law_462 rfl 0 rfl ?_
  refine V_iload hC dL_law_463 4 rfl ?_
  refine V_iconst hC (1 : Int32) dL_law_465 (by decide) ?_
  refine V_iadd hC dL_law_466 ?_
  obtain ⟨c48, h⟩ := ite_some h
  refine V_sld hC hsc hbl hbA c48 dL_law_467 ?_
  refine V_aload_n hC dL_law_468 rfl 0 rfl ?_
  refine V_iload hC dL_law_469 4 rfl ?_
  refine V_iconst hC (2 : Int32) dL_law_471 (by decide) ?_
  refine V_iadd hC dL_law_472 ?_
  obtain ⟨c49, h⟩ := ite_some h
  refine V_sld hC hsc hbl hbA c49 dL_law_473 ?_
  refine V_aload_n hC dL_law_474 rfl 3 rfl ?_
  obtain ⟨q50, e50, h⟩ := bind_some h
  refine V_cW hC hX [.ref (adr G 6 0), .int (xs (cl (x4 + (1 : Int32)))), .int (xs (cl (x4 + (2 : Int32)))), .ref (adr G 8 0)] (c_L_child (l := l) (rv := q50.1) (Mf := q50.2) hlt hC.2.2.2.2.2.2.2 e50) kx_L_child gw_945 gw_944 ⟨Nat.le_of_ble_eq_true rfl, Nat.le_of_ble_eq_true rfl⟩ rfl (Nat.le_of_ble_eq_true rfl) dL_law_475 (law_rm hkk (by omega) (by omega)) rfl ?_
  refine V_istore hC ([(5, .int q50.1), (0, .ref b), (1, .ref (adr G 6 0)), (2, .ref (adr G 7 0)), (3, .ref (adr G 8 0)), (4, .int x4)]) dL_law_478 (by decide) rfl ?_
  refine V_aload_n hC dL_law_480 rfl 3 rfl ?_
  refine V_aload_n hC dL_law_481 rfl 1 rfl ?_
  refine V_iload hC dL_law_482 5 rfl ?_
  refine V_iconst hC (1 : Int32) dL_law_484 (by decide) ?_
  refine V_iadd hC dL_law_485 ?_
  obtain ⟨c51, h⟩ := ite_some h
  refine V_sld hC hsc hbl hbA c51 dL_law_486 ?_
  refine V_aload_n hC dL_law_487 rfl 1 rfl ?_
  refine V_iload hC dL_law_488 5 rfl ?_
  refine V_iconst hC (2 : Int32) dL_law_490 (by decide) ?_
  refine V_iadd hC dL_law_491 ?_
  obtain ⟨c52, h⟩ := ite_some h
  refine V_sld hC hsc hbl hbA c52 dL_law_492 ?_
  obtain ⟨q53, e53, h⟩ := bind_some h
  refine V_cVr hC [.int (xs (cl (x4 + (1 : Int32)))), .int (xs (cl (x4 + (2 : Int32))))] (c_X9_child (l := l) (rv := q53.1) (Mf := q53.2) hC.2.2.2.2.2.2.2 e53) kd_X9_child kv_X9_child gw_1415 (r_m0_0).o rfl ⟨Nat.le_of_ble_eq_true rfl, Nat.le_of_ble_eq_true rfl⟩ rfl (Nat.le_of_ble_eq_true rfl) dL_law_493 (law_rm hkk (by omega) (by omega)) rfl ?_
  refine V_istore hC ([(6, .int q53.1), (5, .int q50.1), (0, .ref b), (1, .ref (adr G 6 0)), (2, .ref (adr G 7 0)), (3, .ref (adr G 8 0)), (4, .int x4)]) dL_law_496 (by decide) rfl ?_
  refine V_aload_n hC dL_law_498 rfl 4 rfl ?_
  refine V_cVr hC [] (c_X9_thrown (l := l) hC.2.2.2.2.2.2.2 rfl) kd_X9_thrown kv_X9_thrown gw_1310 (r_m0_0).o rfl ⟨Nat.le_of_ble_eq_true rfl, Nat.le_of_ble_eq_true rfl⟩ rfl (Nat.le_of_ble_eq_true rfl) dL_law_499 (law_rm hkk (by omega) (by omega)) rfl ?_
  refine V_iload hC dL_law_502 1 rfl ?_
  refine V_icmp_eq hC 509 dL_law_504 (by decide) (fun c55 => ?_) (fun c55 => ?_)
  · have h := ite_t c55 h
    refine V_iload hC dL_law_509 1 rfl ?_
    refine V_if_ne hC 526 dL_law_511 (by decide) (fun c56 => ?_) (fun c56 => ?_)
    · have h := ite_f c56 h
      refine V_sub [2, 3, 4, 5, 6] rfl ?_
      exact b_L_law_526 hC hr hlk hX hd0 hlt hsc hbl hbA hgA hkk hk23 h
    · have h := ite_t c56 h
      refine V_aload_n hC dL_law_514 rfl 5 rfl ?_
      refine V_iconst hC (0 : Int32) dL_law_515 (by decide) ?_
      refine V_lald hC rfl dL_law_516 ?_
      refine V_iload hC dL_law_517 0 rfl ?_
      refine V_i2l hC dL_law_519 ?_
      refine V_lcmp hC dL_law_520 ?_
      refine V_if_eq hC 526 dL_law_521 (by decide) (fun c57 => ?_) (fun c57 => ?_)
      · have h := ite_t c57 h
        refine V_sub [2, 3, 4, 5, 6] rfl ?_
        exact b_L_law_526 hC hr hlk hX hd0 hlt hsc hbl hbA hgA hkk hk23 h
      · have h := ite_f c57 h
        refine V_iconst hC (0 : Int32) dL_law_524 (by decide) ?_
        exact absurd h (by decide)
  · have h := ite_f c55 h
    refine V_iconst hC (0 : Int32) dL_law_507 (by decide) ?_
    exact absurd h (by decide)
theorem b_L_law_594 {xs : Nat → Int32} {nS : Nat} {k : Nat} {b : Nat} {d0 : Drawn} {k23 : Int32 → Mem → Option Int32} {x4 : Int32} {M : Mem} (hC : Cx p (s.setDrawn d0) m #[Value.ref b] c code RL 7 G) (hr : meth.sig.returnType = ret) (hlk : meth.locks = false) (hX : XF G (s.setDrawn d0)) (hd0 : s.drawn.sameBut d0 lw_cs) (hlt : l.stackTraces = false) (hsc : va_X b nS xs (s.setDrawn d0) (s.setDrawn d0).heap) (hbl : b < (s.setDrawn d0).heap.size) (hbA : ¬ gA G b) (hgA : ∀ q, gA G q → s.heap.size ≤ q) (hkk : k ≤ 512) (hk23 : ∀ (x4 : Int32) (M : Mem), k23 x4 M = some 1 → V p l e room_1 (s.setDrawn d0) m #[Value.ref b] below meth c 7 G (K0 + (k + 1)) (K1 + 6 * (k + 1)) (lw_Z below #[Value.ref b] s) 23 [(0, .ref b), (1, .ref (adr G 6 0)), (2, .ref (adr G 7 0)), (3, .ref (adr G 8 0)), (4, .int x4)] [] M) (h : B_L_law_594 xs nS k23 x4 M = some 1) : V p l e room_1 (s.setDrawn d0) m #[Value.ref b] below meth c 7 G (K0 + k + 1) (K1 + 6 * k + 6) (lw_Z below #[Value.ref b] s) 594 [(0, .ref b), (1, .ref (adr G 6 0)), (2, .ref (adr G 7 0)), (3, .ref (adr G 8 0)), (4, .int x4)] [] M := by
  refine V_goto hC 2323 dL_law_594 (by decide) ?_
  refine V_widen (k := K0 + (k + 1)) (n := K1 + 6 * (k + 1)) (by omega) (by omega) ?_
  exact b_L_law_2323 hC hr hlk hX hd0 hlt hsc hbl hbA hgA hkk hk23 h
theorem b_L_law_529 {xs : Nat → Int32} {nS : Nat} {k : Nat} {b : Nat} {d0 : Drawn} {k23 : Int32 → Mem → Option Int32} {x4 : Int32} {M : Mem} (hC : Cx p (s.setDrawn d0) m #[Value.ref b] c code RL 7 G) (hr : meth.sig.returnType = ret) (hlk : meth.locks = false) (hX : XF G (s.setDrawn d0)) (hd0 : s.drawn.sameBut d0 lw_cs) (hlt : l.stackTraces = false) (hsc : va_X b nS xs (s.setDrawn d0) (s.setDrawn d0).heap) (hbl : b < (s.setDrawn d0).heap.size) (hbA : ¬ gA G b) (hgA : ∀ q, gA G q → s.heap.size ≤ q) (hkk : k ≤ 512) (hk23 : ∀ (x4 : Int32) (M : Mem), k23 x4 M = some 1 → V p l e room_1 (s.setDrawn d0) m #[Value.ref b] below meth c 7 G (K0 + (k + 1)) (K1 + 6 * (k + 1)) (lw_Z below #[Value.ref b] s) 23 [(0, .ref b), (1, .ref (adr G 6 0)), (2, .ref (adr G 7 0)), (3, .ref (adr G 8 0)), (4, .int x4)] [] M) (h : B_L_law_529 xs nS k23 x4 M = some 1) : V p l e room_1 (s.setDrawn d0) m #[Value.ref b] below meth c 7 G (K0 + k) (K1 + 6 * k) (lw_Z below #[Value.ref b] s) 529 [(0, .ref b), (1, .ref (adr G 6 0)), (2, .ref (adr G 7 0)), (3, .ref (adr G 8 0)), (4, .int x4)] [] M := by
  refine V_aload_n hC dL_law_529 rfl 1 rfl ?_
  refine V_aload_n hC dL_law_530 rfl 0 rfl ?_
  refine V_iload hC dL_law_531 4 rfl ?_
  refine V_iconst hC (1 : Int32) dL_law_533 (by decide) ?_
  refine V_iadd hC dL_law_534 ?_
  obtain ⟨c59, h⟩ := ite_some h
  refine V_sld hC hsc hbl hbA c59 dL_law_535 ?_
  refine V_aload_n hC dL_law_536 rfl 0 rfl ?_
  refine V_iload hC dL_law_537 4 rfl ?_
  refine V_iconst hC (2 : Int32) dL_law_539 (by decide) ?_
  refine V_iadd hC dL_law_540 ?_
  obtain ⟨c60, h⟩ := ite_some h
  refine V_sld hC hsc hbl hbA c60 dL_law_541 ?_
  refine V_aload_n hC dL_law_542 rfl 3 rfl ?_
  obtain ⟨q61, e61, h⟩ := bind_some h
  refine V_cW hC hX [.ref (adr G 6 0), .int (xs (cl (x4 + (1 : Int32)))), .int (xs (cl (x4 + (2 : Int32)))), .ref (adr G 8 0)] (c_L_line (l := l) (rv := q61.1) (Mf := q61.2) hlt hC.2.2.2.2.2.2.2 e61) kx_L_line gw_953 gw_952 ⟨Nat.le_of_ble_eq_true rfl, Nat.le_of_ble_eq_true rfl⟩ rfl (Nat.le_of_ble_eq_true rfl) dL_law_543 (law_rm hkk (by omega) (by omega)) rfl ?_
  refine V_istore hC ([(5, .int q61.1), (0, .ref b), (1, .ref (adr G 6 0)), (2, .ref (adr G 7 0)), (3, .ref (adr G 8 0)), (4, .int x4)]) dL_law_546 (by decide) rfl ?_
  refine V_aload_n hC dL_law_548 rfl 3 rfl ?_
  refine V_aload_n hC dL_law_549 rfl 1 rfl ?_
  refine V_iload hC dL_law_550 5 rfl ?_
  refine V_iconst hC (1 : Int32) dL_law_552 (by decide) ?_
  refine V_iadd hC dL_law_553 ?_
  obtain ⟨c62, h⟩ := ite_some h
  refine V_sld hC hsc hbl hbA c62 dL_law_554 ?_
  refine V_aload_n hC dL_law_555 rfl 1 rfl ?_
  refine V_iload hC dL_law_556 5 rfl ?_
  refine V_iconst hC (2 : Int32) dL_law_558 (by decide) ?_
  refine V_iadd hC dL_law_559 ?_
  obtain ⟨c63, h⟩ := ite_some h
  refine V_sld hC hsc hbl hbA c63 dL_law_560 ?_
  obtain ⟨q64, e64, h⟩ := bind_some h
  refine V_cVr hC [.int (xs (cl (x4 + (1 : Int32)))), .int (xs (cl (x4 + (2 : Int32))))] (c_X9_line (l := l) (rv := q64.1) (Mf := q64.2) hC.2.2.2.2.2.2.2 e64) kd_X9_line kv_X9_line gw_1423 (r_m0_0).o rfl ⟨Nat.le_of_ble_eq_true rfl, Nat.le_of_ble_eq_true rfl⟩ rfl (Nat.le_of_ble_eq_true rfl) dL_law_561 (law_rm hkk (by omega) (by omega)) rfl ?_
  refine V_istore hC ([(6, .int q64.1), (5, .int q61.1), (0, .ref b), (1, .ref (adr G 6 0)), (2, .ref (adr G 7 0)), (3, .ref (adr G 8 0)), (4, .int x4)]) dL_law_564 (by decide) rfl ?_
  refine V_aload_n hC dL_law_566 rfl 4 rfl ?_
  refine V_cVr hC [] (c_X9_thrown (l := l) hC.2.2.2.2.2.2.2 rfl) kd_X9_thrown kv_X9_thrown gw_1310 (r_m0_0).o rfl ⟨Nat.le_of_ble_eq_true rfl, Nat.le_of_ble_eq_true rfl⟩ rfl (Nat.le_of_ble_eq_true rfl) dL_law_567 (law_rm hkk (by omega) (by omega)) rfl ?_
  refine V_iload hC dL_law_570 1 rfl ?_
  refine V_icmp_eq hC 577 dL_law_572 (by decide) (fun c66 => ?_) (fun c66 => ?_)
  · have h := ite_t c66 h
    refine V_iload hC dL_law_577 1 rfl ?_
    refine V_if_ne hC 594 dL_law_579 (by decide) (fun c67 => ?_) (fun c67 => ?_)
    · have h := ite_f c67 h
      refine V_sub [2, 3, 4, 5, 6] rfl ?_
      exact b_L_law_594 hC hr hlk hX hd0 hlt hsc hbl hbA hgA hkk hk23 h
    · have h := ite_t c67 h
      refine V_aload_n hC dL_law_582 rfl 5 rfl ?_
      refine V_iconst hC (0 : Int32) dL_law_583 (by decide) ?_
      refine V_lald hC rfl dL_law_584 ?_
      refine V_iload hC dL_law_585 0 rfl ?_
      refine V_i2l hC dL_law_587 ?_
      refine V_lcmp hC dL_law_588 ?_
      refine V_if_eq hC 594 dL_law_589 (by decide) (fun c68 => ?_) (fun c68 => ?_)
      · have h := ite_t c68 h
        refine V_sub [2, 3, 4, 5, 6] rfl ?_
        exact b_L_law_594 hC hr hlk hX hd0 hlt hsc hbl hbA hgA hkk hk23 h
      · have h := ite_f c68 h
        refine V_iconst hC (0 : Int32) dL_law_592 (by decide) ?_
        exact absurd h (by decide)
  · have h := ite_f c66 h
    refine V_iconst hC (0 : Int32) dL_law_575 (by decide) ?_
    exact absurd h (by decide)
theorem b_L_law_674 {xs : Nat → Int32} {nS : Nat} {k : Nat} {b : Nat} {d0 : Drawn} {k23 : Int32 → Mem → Option Int32} {x4 : Int32} {M : Mem} (hC : Cx p (s.setDrawn d0) m #[Value.ref b] c code RL 7 G) (hr : meth.sig.returnType = ret) (hlk : meth.locks = false) (hX : XF G (s.setDrawn d0)) (hd0 : s.drawn.sameBut d0 lw_cs) (hlt : l.stackTraces = false) (hsc : va_X b nS xs (s.setDrawn d0) (s.setDrawn d0).heap) (hbl : b < (s.setDrawn d0).heap.size) (hbA : ¬ gA G b) (hgA : ∀ q, gA G q → s.heap.size ≤ q) (hkk : k ≤ 512) (hk23 : ∀ (x4 : Int32) (M : Mem), k23 x4 M = some 1 → V p l e room_1 (s.setDrawn d0) m #[Value.ref b] below meth c 7 G (K0 + (k + 1)) (K1 + 6 * (k + 1)) (lw_Z below #[Value.ref b] s) 23 [(0, .ref b), (1, .ref (adr G 6 0)), (2, .ref (adr G 7 0)), (3, .ref (adr G 8 0)), (4, .int x4)] [] M) (h : B_L_law_674 xs nS k23 x4 M = some 1) : V p l e room_1 (s.setDrawn d0) m #[Value.ref b] below meth c 7 G (K0 + k + 1) (K1 + 6 * k + 6) (lw_Z below #[Value.ref b] s) 674 [(0, .ref b), (1, .ref (adr G 6 0)), (2, .ref (adr G 7 0)), (3, .ref (adr G 8 0)), (4, .int x4)] [] M := by
  refine V_goto hC 2323 dL_law_674 (by decide) ?_
  refine V_widen (k := K0 + (k + 1)) (n := K1 + 6 * (k + 1)) (by omega) (by omega) ?_
  exact b_L_law_2323 hC hr hlk hX hd0 hlt hsc hbl hbA hgA hkk hk23 h
theorem b_L_law_597 {xs : Nat → Int32} {nS : Nat} {k : Nat} {b : Nat} {d0 : Drawn} {k23 : Int32 → Mem → Option Int32} {x4 : Int32} {M : Mem} (hC : Cx p (s.setDrawn d0) m #[Value.ref b] c code RL 7 G) (hr : meth.sig.returnType = ret) (hlk : meth.locks = false) (hX : XF G (s.setDrawn d0)) (hd0 : s.drawn.sameBut d0 lw_cs) (hlt : l.stackTraces = false) (hsc : va_X b nS xs (s.setDrawn d0) (s.setDrawn d0).heap) (hbl : b < (s.setDrawn d0).heap.size) (hbA : ¬ gA G b) (hgA : ∀ q, gA G q → s.heap.size ≤ q) (hkk : k ≤ 512) (hk23 : ∀ (x4 : Int32) (M : Mem), k23 x4 M = some 1 → V p l e room_1 (s.setDrawn d0) m #[Value.ref b] below meth c 7 G (K0 + (k + 1)) (K1 + 6 * (k + 1)) (lw_Z below #[Value.ref b] s) 23 [(0, .ref b), (1, .ref (adr G 6 0)), (2, .ref (adr G 7 0)), (3, .ref (adr G 8 0)), (4, .int x4)] [] M) (h : B_L_law_597 xs nS k23 x4 M = some 1) : V p l e room_1 (s.setDrawn d0) m #[Value.ref b] below meth c 7 G (K0 + k) (K1 + 6 * k) (lw_Z below #[Value.ref b] s) 597 [(0, .ref b), (1, .ref (adr G 6 0)), (2, .ref (adr G 7 0)), (3, .ref (adr G 8 0)), (4, .int x4)] [] M := by
  refine V_aload_n hC dL_law_597 rfl 1 rfl ?_
  refine V_aload_n hC dL_law_598 rfl 0 rfl ?_
  refine V_iload hC dL_law_599 4 rfl ?_
  refine V_iconst hC (1 : Int32) dL_law_601 (by decide) ?_
  refine V_iadd hC dL_law_602 ?_
  obtain ⟨c70, h⟩ := ite_some h
  refine V_sld hC hsc hbl hbA c70 dL_law_603 ?_
  refine V_aload_n hC dL_law_604 rfl 0 rfl ?_
  refine V_iload hC dL_law_605 4 rfl ?_
  refine V_iconst hC (2 : Int32) dL_law_607 (by decide) ?_
  refine V_iadd hC dL_law_608 ?_
  obtain ⟨c71, h⟩ := ite_some h
  refine V_sld hC hsc hbl hbA c71 dL_law_609 ?_
  refine V_aload_n hC dL_law_610 rfl 0 rfl ?_
  refine V_iload hC dL_law_611 4 rfl ?_
  refine V_iconst hC (3 : Int32) dL_law_613 (by decide) ?_
  refine V_iadd hC dL_law_614 ?_
  obtain ⟨c72, h⟩ := ite_some h
  refine V_sld hC hsc hbl hbA c72 dL_law_615 ?_
  refine V_aload_n hC dL_law_616 rfl 3 rfl ?_
  obtain ⟨q73, e73, h⟩ := bind_some h
  refine V_cW hC hX [.ref (adr G 6 0), .int (xs (cl (x4 + (1 : Int32)))), .int (xs (cl (x4 + (2 : Int32)))), .int (xs (cl (x4 + (3 : Int32)))), .ref (adr G 8 0)] (c_L_write (l := l) (rv := q73.1) (Mf := q73.2) hlt hC.2.2.2.2.2.2.2 e73) kx_L_write gw_963 gw_962 ⟨Nat.le_of_ble_eq_true rfl, Nat.le_of_ble_eq_true rfl⟩ rfl (Nat.le_of_ble_eq_true rfl) dL_law_617 (law_rm hkk (by omega) (by omega)) rfl ?_
  refine V_istore hC ([(5, .int q73.1), (0, .ref b), (1, .ref (adr G 6 0)), (2, .ref (adr G 7 0)), (3, .ref (adr G 8 0)), (4, .int x4)]) dL_law_620 (by decide) rfl ?_
  refine V_aload_n hC dL_law_622 rfl 3 rfl ?_
  refine V_aload_n hC dL_law_623 rfl 1 rfl ?_
  refine V_iload hC dL_law_624 5 rfl ?_
  refine V_iconst hC (1 : Int32) dL_law_626 (by decide) ?_
  refine V_iadd hC dL_law_627 ?_
  obtain ⟨c74, h⟩ := ite_some h
  refine V_sld hC hsc hbl hbA c74 dL_law_628 ?_
  refine V_aload_n hC dL_law_629 rfl 1 rfl ?_
  refine V_iload hC dL_law_630 5 rfl ?_
  refine V_iconst hC (2 : Int32) dL_law_632 (by decide) ?_
  refine V_iadd hC dL_law_633 ?_
  obtain ⟨c75, h⟩ := ite_some h
  refine V_sld hC hsc hbl hbA c75 dL_law_634 ?_
  refine V_aload_n hC dL_law_635 rfl 1 rfl ?_
  refine V_iload hC dL_law_636 5 rfl ?_
  refine V_iconst hC (3 : Int32) dL_law_638 (by decide) ?_
  refine V_iadd hC dL_law_639 ?_
  obtain ⟨c76, h⟩ := ite_some h
  refine V_sld hC hsc hbl hbA c76 dL_law_640 ?_
  obtain ⟨q77, e77, h⟩ := bind_some h
  refine V_cVr hC [.int (xs (cl (x4 + (1 : Int32)))), .int (xs (cl (x4 + (2 : Int32)))), .int (xs (cl (x4 + (3 : Int32))))] (c_X9_write (l := l) (rv := q77.1) (Mf := q77.2) hC.2.2.2.2.2.2.2 e77) kd_X9_write kv_X9_write gw_1431 (r_m0_0).o rfl ⟨Nat.le_of_ble_eq_true rfl, Nat.le_of_ble_eq_true rfl⟩ rfl (Nat.le_of_ble_eq_true rfl) dL_law_641 (law_rm hkk (by omega) (by omega)) rfl ?_
  refine V_istore hC ([(6, .int q77.1), (5, .int q73.1), (0, .ref b), (1, .ref (adr G 6 0)), (2, .ref (adr G 7 0)), (3, .ref (adr G 8 0)), (4, .int x4)]) dL_law_644 (by decide) rfl ?_
  refine V_aload_n hC dL_law_646 rfl 4 rfl ?_
  refine V_cVr hC [] (c_X9_thrown (l := l) hC.2.2.2.2.2.2.2 rfl) kd_X9_thrown kv_X9_thrown gw_1310 (r_m0_0).o rfl ⟨Nat.le_of_ble_eq_true rfl, Nat.le_of_ble_eq_true rfl⟩ rfl (Nat.le_of_ble_eq_true rfl) dL_law_647 (law_rm hkk (by omega) (by omega)) rfl ?_
  refine V_iload hC dL_law_650 1 rfl ?_
  refine V_icmp_eq hC 657 dL_law_652 (by decide) (fun c79 => ?_) (fun c79 => ?_)
  · have h := ite_t c79 h
    refine V_iload hC dL_law_657 1 rfl ?_
    refine V_if_ne hC 674 dL_law_659 (by decide) (fun c80 => ?_) (fun c80 => ?_)
    · have h := ite_f c80 h
      refine V_sub [2, 3, 4, 5, 6] rfl ?_
      exact b_L_law_674 hC hr hlk hX hd0 hlt hsc hbl hbA hgA hkk hk23 h
    · have h := ite_t c80 h
      refine V_aload_n hC dL_law_662 rfl 5 rfl ?_
      refine V_iconst hC (0 : Int32) dL_law_663 (by decide) ?_
      refine V_lald hC rfl dL_law_664 ?_
      refine V_iload hC dL_law_665 0 rfl ?_
      refine V_i2l hC dL_law_667 ?_
      refine V_lcmp hC dL_law_668 ?_
      refine V_if_eq hC 674 dL_law_669 (by decide) (fun c81 => ?_) (fun c81 => ?_)
      · have h := ite_t c81 h
        refine V_sub [2, 3, 4, 5, 6] rfl ?_
        exact b_L_law_674 hC hr hlk hX hd0 hlt hsc hbl hbA hgA hkk hk23 h
      · have h := ite_f c81 h
        refine V_iconst hC (0 : Int32) dL_law_672 (by decide) ?_
        exact absurd h (by decide)
  · have h := ite_f c79 h
    refine V_iconst hC (0 : Int32) dL_law_655 (by decide) ?_
    exact absurd h (by decide)
theorem b_L_law_782 {xs : Nat → Int32} {nS : Nat} {k : Nat} {b : Nat} {d0 : Drawn} {k23 : Int32 → Mem → Option Int32} {x4 : Int32} {M : Mem} (hC : Cx p (s.setDrawn d0) m #[Value.ref b] c code RL 7 G) (hr : meth.sig.returnType = ret) (hlk : meth.locks = false) (hX : XF G (s.setDrawn d0)) (hd0 : s.drawn.sameBut d0 lw_cs) (hlt : l.stackTraces = false) (hsc : va_X b nS xs (s.setDrawn d0) (s.setDrawn d0).heap) (hbl : b < (s.setDrawn d0).heap.size) (hbA : ¬ gA G b) (hgA : ∀ q, gA G q → s.heap.size ≤ q) (hkk : k ≤ 512) (hk23 : ∀ (x4 : Int32) (M : Mem), k23 x4 M = some 1 → V p l e room_1 (s.setDrawn d0) m #[Value.ref b] below meth c 7 G (K0 + (k + 1)) (K1 + 6 * (k + 1)) (lw_Z below #[Value.ref b] s) 23 [(0, .ref b), (1, .ref (adr G 6 0)), (2, .ref (adr G 7 0)), (3, .ref (adr G 8 0)), (4, .int x4)] [] M) (h : B_L_law_782 xs nS k23 x4 M = some 1) : V p l e room_1 (s.setDrawn d0) m #[Value.ref b] below meth c 7 G (K0 + k + 1) (K1 + 6 * k + 6) (lw_Z below #[Value.ref b] s) 782 [(0, .ref b), (1, .ref (adr G 6 0)), (2, .ref (adr G 7 0)), (3, .ref (adr G 8 0)), (4, .int x4)] [] M := by
  refine V_goto hC 2323 dL_law_782 (by decide) ?_
  refine V_widen (k := K0 + (k + 1)) (n := K1 + 6 * (k + 1)) (by omega) (by omega) ?_
  exact b_L_law_2323 hC hr hlk hX hd0 hlt hsc hbl hbA hgA hkk hk23 h
theorem b_L_law_749 {xs : Nat → Int32} {nS : Nat} {k : Nat} {b : Nat} {d0 : Drawn} {k23 : Int32 → Mem → Option Int32} {x4 : Int32} {x5 : Int32} {z0 : Int32} {z1 : Int32} {z2 : Int32} {z3 : Int32} {M : Mem} (hC : Cx p (s.setDrawn d0) m #[Value.ref b] c code RL 7 G) (hr : meth.sig.returnType = ret) (hlk : meth.locks = false) (hX : XF G (s.setDrawn d0)) (hd0 : s.drawn.sameBut d0 lw_cs) (hlt : l.stackTraces = false) (hsc : va_X b nS xs (s.setDrawn d0) (s.setDrawn d0).heap) (hbl : b < (s.setDrawn d0).heap.size) (hbA : ¬ gA G b) (hgA : ∀ q, gA G q → s.heap.size ≤ q) (hkk : k ≤ 512) (hk23 : ∀ (x4 : Int32) (M : Mem), k23 x4 M = some 1 → V p l e room_1 (s.setDrawn d0) m #[Value.ref b] below meth c 7 G (K0 + (k + 1)) (K1 + 6 * (k + 1)) (lw_Z below #[Value.ref b] s) 23 [(0, .ref b), (1, .ref (adr G 6 0)), (2, .ref (adr G 7 0)), (3, .ref (adr G 8 0)), (4, .int x4)] [] M) (h : B_L_law_749 xs nS k23 x4 x5 z0 z1 z2 z3 M = some 1) : V p l e room_1 (s.setDrawn d0) m #[Value.ref b] below meth c 7 G (K0 + k + 1) (K1 + 6 * k + 6) (lw_Z below #[Value.ref b] s) 749 [(0, .ref b), (1, .ref (adr G 6 0)), (2, .ref (adr G 7 0)), (3, .ref (adr G 8 0)), (4, .int x4), (5, .int x5)] [.int z0, .int z1, .int z2, .int z3, .ref (adr G 7 0)] M := by
  obtain ⟨q94, e94, h⟩ := bind_some h
  refine V_cVr hC [.int z3, .int z2, .int z1, .int z0] (c_X9_request (l := l) (rv := q94.1) (Mf := q94.2) hC.2.2.2.2.2.2.2 e94) kd_X9_request kv_X9_request gw_1455 (r_m0_0).o rfl ⟨Nat.le_of_ble_eq_true rfl, Nat.le_of_ble_eq_true rfl⟩ rfl (Nat.le_of_ble_eq_true rfl) dL_law_749 (law_rm hkk (by omega) (by omega)) rfl ?_
  refine V_istore hC ([(6, .int q94.1), (0, .ref b), (1, .ref (adr G 6 0)), (2, .ref (adr G 7 0)), (3, .ref (adr G 8 0)), (4, .int x4), (5, .int x5)]) dL_law_752 (by decide) rfl ?_
  refine V_aload_n hC dL_law_754 rfl 3 rfl ?_
  refine V_cVr hC [] (c_X9_thrown (l := l) hC.2.2.2.2.2.2.2 rfl) kd_X9_thrown kv_X9_thrown gw_1310 (r_m0_0).o rfl ⟨Nat.le_of_ble_eq_true rfl, Nat.le_of_ble_eq_true rfl⟩ rfl (Nat.le_of_ble_eq_true rfl) dL_law_755 (law_rm hkk (by omega) (by omega)) rfl ?_
  refine V_iload hC dL_law_758 6 rfl ?_
  refine V_icmp_eq hC 765 dL_law_760 (by decide) (fun c96 => ?_) (fun c96 => ?_)
  · have h := ite_t c96 h
    refine V_iload hC dL_law_765 6 rfl ?_
    refine V_if_ne hC 782 dL_law_767 (by decide) (fun c97 => ?_) (fun c97 => ?_)
    · have h := ite_f c97 h
      refine V_sub [1, 2, 3, 4, 5] rfl ?_
      exact b_L_law_782 hC hr hlk hX hd0 hlt hsc hbl hbA hgA hkk hk23 h
    · have h := ite_t c97 h
      refine V_aload_n hC dL_law_770 rfl 4 rfl ?_
      refine V_iconst hC (0 : Int32) dL_law_771 (by decide) ?_
      refine V_lald hC rfl dL_law_772 ?_
      refine V_iload hC dL_law_773 0 rfl ?_
      refine V_i2l hC dL_law_775 ?_
      refine V_lcmp hC dL_law_776 ?_
      refine V_if_eq hC 782 dL_law_777 (by decide) (fun c98 => ?_) (fun c98 => ?_)
      · have h := ite_t c98 h
        refine V_sub [1, 2, 3, 4, 5] rfl ?_
        exact b_L_law_782 hC hr hlk hX hd0 hlt hsc hbl hbA hgA hkk hk23 h
      · have h := ite_f c98 h
        refine V_iconst hC (0 : Int32) dL_law_780 (by decide) ?_
        exact absurd h (by decide)
  · have h := ite_f c96 h
    refine V_iconst hC (0 : Int32) dL_law_763 (by decide) ?_
    exact absurd h (by decide)
theorem b_L_law_710 {xs : Nat → Int32} {nS : Nat} {k : Nat} {b : Nat} {d0 : Drawn} {k23 : Int32 → Mem → Option Int32} {x4 : Int32} {z0 : Int32} {z1 : Int32} {z2 : Int32} {z3 : Int32} {M : Mem} (hC : Cx p (s.setDrawn d0) m #[Value.ref b] c code RL 7 G) (hr : meth.sig.returnType = ret) (hlk : meth.locks = false) (hX : XF G (s.setDrawn d0)) (hd0 : s.drawn.sameBut d0 lw_cs) (hlt : l.stackTraces = false) (hsc : va_X b nS xs (s.setDrawn d0) (s.setDrawn d0).heap) (hbl : b < (s.setDrawn d0).heap.size) (hbA : ¬ gA G b) (hgA : ∀ q, gA G q → s.heap.size ≤ q) (hkk : k ≤ 512) (hk23 : ∀ (x4 : Int32) (M : Mem), k23 x4 M = some 1 → V p l e room_1 (s.setDrawn d0) m #[Value.ref b] below meth c 7 G (K0 + (k + 1)) (K1 + 6 * (k + 1)) (lw_Z below #[Value.ref b] s) 23 [(0, .ref b), (1, .ref (adr G 6 0)), (2, .ref (adr G 7 0)), (3, .ref (adr G 8 0)), (4, .int x4)] [] M) (h : B_L_law_710 xs nS k23 x4 z0 z1 z2 z3 M = some 1) : V p l e room_1 (s.setDrawn d0) m #[Value.ref b] below meth c 7 G (K0 + k) (K1 + 6 * k) (lw_Z below #[Value.ref b] s) 710 [(0, .ref b), (1, .ref (adr G 6 0)), (2, .ref (adr G 7 0)), (3, .ref (adr G 8 0)), (4, .int x4)] [.int z0, .int z1, .int z2, .int z3, .ref (adr G 6 0)] M := by
  refine V_aload_n hC dL_law_710 rfl 3 rfl ?_
  obtain ⟨q88, e88, h⟩ := bind_some h
  refine V_cW hC hX [.ref (adr G 6 0), .int z3, .int z2, .int z1, .int z0, .ref (adr G 8 0)] (c_L_request (l := l) (rv := q88.1) (Mf := q88.2) hlt hC.2.2.2.2.2.2.2 e88) kx_L_request gw_978 gw_977 ⟨Nat.le_of_ble_eq_true rfl, Nat.le_of_ble_eq_true rfl⟩ rfl (Nat.le_of_ble_eq_true rfl) dL_law_711 (law_rm hkk (by omega) (by omega)) rfl ?_
  refine V_istore hC ([(5, .int q88.1), (0, .ref b), (1, .ref (adr G 6 0)), (2, .ref (adr G 7 0)), (3, .ref (adr G 8 0)), (4, .int x4)]) dL_law_714 (by decide) rfl ?_
  refine V_aload_n hC dL_law_716 rfl 3 rfl ?_
  refine V_aload_n hC dL_law_717 rfl 1 rfl ?_
  refine V_iload hC dL_law_718 5 rfl ?_
  refine V_iconst hC (1 : Int32) dL_law_720 (by decide) ?_
  refine V_iadd hC dL_law_721 ?_
  obtain ⟨c89, h⟩ := ite_some h
  refine V_sld hC hsc hbl hbA c89 dL_law_722 ?_
  refine V_aload_n hC dL_law_723 rfl 1 rfl ?_
  refine V_iload hC dL_law_724 5 rfl ?_
  refine V_iconst hC (2 : Int32) dL_law_726 (by decide) ?_
  refine V_iadd hC dL_law_727 ?_
  obtain ⟨c90, h⟩ := ite_some h
  refine V_sld hC hsc hbl hbA c90 dL_law_728 ?_
  refine V_aload_n hC dL_law_729 rfl 1 rfl ?_
  refine V_iload hC dL_law_730 5 rfl ?_
  refine V_iconst hC (3 : Int32) dL_law_732 (by decide) ?_
  refine V_iadd hC dL_law_733 ?_
  obtain ⟨c91, h⟩ := ite_some h
  refine V_sld hC hsc hbl hbA c91 dL_law_734 ?_
  refine V_aload_n hC dL_law_735 rfl 1 rfl ?_
  refine V_iload hC dL_law_736 5 rfl ?_
  refine V_iconst hC (4 : Int32) dL_law_738 (by decide) ?_
  refine V_iadd hC dL_law_739 ?_
  obtain ⟨c92, h⟩ := ite_some h
  refine V_sld hC hsc hbl hbA c92 dL_law_740 ?_
  refine V_if_eq hC 748 dL_law_741 (by decide) (fun c93 => ?_) (fun c93 => ?_)
  · have h := ite_t c93 h
    refine V_iconst hC (0 : Int32) dL_law_748 (by decide) ?_
    refine V_sub [1, 2, 3, 4, 5, 0] rfl ?_
    exact b_L_law_749 hC hr hlk hX hd0 hlt hsc hbl hbA hgA hkk hk23 h
  · have h := ite_f c93 h
    refine V_iconst hC (1 : Int32) dL_law_744 (by decide) ?_
    refine V_goto hC 749 dL_law_745 (by decide) ?_
    refine V_sub [1, 2, 3, 4, 5, 0] rfl ?_
    exact b_L_law_749 hC hr hlk hX hd0 hlt hsc hbl hbA hgA hkk hk23 h
theorem b_L_law_677 {xs : Nat → Int32} {nS : Nat} {k : Nat} {b : Nat} {d0 : Drawn} {k23 : Int32 → Mem → Option Int32} {x4 : Int32} {M : Mem} (hC : Cx p (s.setDrawn d0) m #[Value.ref b] c code RL 7 G) (hr : meth.sig.returnType = ret) (hlk : meth.locks = false) (hX : XF G (s.setDrawn d0)) (hd0 : s.drawn.sameBut d0 lw_cs) (hlt : l.stackTraces = false) (hsc : va_X b nS xs (s.setDrawn d0) (s.setDrawn d0).heap) (hbl : b < (s.setDrawn d0).heap.size) (hbA : ¬ gA G b) (hgA : ∀ q, gA G q → s.heap.size ≤ q) (hkk : k ≤ 512) (hk23 : ∀ (x4 : Int32) (M : Mem), k23 x4 M = some 1 → V p l e room_1 (s.setDrawn d0) m #[Value.ref b] below meth c 7 G (K0 + (k + 1)) (K1 + 6 * (k + 1)) (lw_Z below #[Value.ref b] s) 23 [(0, .ref b), (1, .ref (adr G 6 0)), (2, .ref (adr G 7 0)), (3, .ref (adr G 8 0)), (4, .int x4)] [] M) (h : B_L_law_677 xs nS k23 x4 M = some 1) : V p l e room_1 (s.setDrawn d0) m #[Value.ref b] below meth c 7 G (K0 + k) (K1 + 6 * k) (lw_Z below #[Value.ref b] s) 677 [(0, .ref b), (1, .ref (adr G 6 0)), (2, .ref (adr G 7 0)), (3, .ref (adr G 8 0)), (4, .int x4)] [] M := by
  refine V_aload_n hC dL_law_677 rfl 1 rfl ?_
  refine V_aload_n hC dL_law_678 rfl 0 rfl ?_
  refine V_iload hC dL_law_679 4 rfl ?_
  refine V_iconst hC (1 : Int32) dL_law_681 (by decide) ?_
  refine V_iadd hC dL_law_682 ?_
  obtain ⟨c83, h⟩ := ite_some h
  refine V_sld hC hsc hbl hbA c83 dL_law_683 ?_
  refine V_aload_n hC dL_law_684 rfl 0 rfl ?_
  refine V_iload hC dL_law_685 4 rfl ?_
  refine V_iconst hC (2 : Int32) dL_law_687 (by decide) ?_
  refine V_iadd hC dL_law_688 ?_
  obtain ⟨c84, h⟩ := ite_some h
  refine V_sld hC hsc hbl hbA c84 dL_law_689 ?_
  refine V_aload_n hC dL_law_690 rfl 0 rfl ?_
  refine V_iload hC dL_law_691 4 rfl ?_
  refine V_iconst hC (3 : Int32) dL_law_693 (by decide) ?_
  refine V_iadd hC dL_law_694 ?_
  obtain ⟨c85, h⟩ := ite_some h
  refine V_sld hC hsc hbl hbA c85 dL_law_695 ?_
  refine V_aload_n hC dL_law_696 rfl 0 rfl ?_
  refine V_iload hC dL_law_697 4 rfl ?_
  refine V_iconst hC (4 : Int32) dL_law_699 (by decide) ?_
  refine V_iadd hC dL_law_700 ?_
  obtain ⟨c86, h⟩ := ite_some h
  refine V_sld hC hsc hbl hbA c86 dL_law_701 ?_
  refine V_if_eq hC 709 dL_law_702 (by decide) (fun c87 => ?_) (fun c87 => ?_)
  · have h := ite_t c87 h
    refine V_iconst hC (0 : Int32) dL_law_709 (by decide) ?_
    exact b_L_law_710 hC hr hlk hX hd0 hlt hsc hbl hbA hgA hkk hk23 h
  · have h := ite_f c87 h
    refine V_iconst hC (1 : Int32) dL_law_705 (by decide) ?_
    refine V_goto hC 710 dL_law_706 (by decide) ?_
    exact b_L_law_710 hC hr hlk hX hd0 hlt hsc hbl hbA hgA hkk hk23 h
theorem b_L_law_838 {xs : Nat → Int32} {nS : Nat} {k : Nat} {b : Nat} {d0 : Drawn} {k23 : Int32 → Mem → Option Int32} {x4 : Int32} {M : Mem} (hC : Cx p (s.setDrawn d0) m #[Value.ref b] c code RL 7 G) (hr : meth.sig.returnType = ret) (hlk : meth.locks = false) (hX : XF G (s.setDrawn d0)) (hd0 : s.drawn.sameBut d0 lw_cs) (hlt : l.stackTraces = false) (hsc : va_X b nS xs (s.setDrawn d0) (s.setDrawn d0).heap) (hbl : b < (s.setDrawn d0).heap.size) (hbA : ¬ gA G b) (hgA : ∀ q, gA G q → s.heap.size ≤ q) (hkk : k ≤ 512) (hk23 : ∀ (x4 : Int32) (M : Mem), k23 x4 M = some 1 → V p l e room_1 (s.setDrawn d0) m #[Value.ref b] below meth c 7 G (K0 + (k + 1)) (K1 + 6 * (k + 1)) (lw_Z below #[Value.ref b] s) 23 [(0, .ref b), (1, .ref (adr G 6 0)), (2, .ref (adr G 7 0)), (3, .ref (adr G 8 0)), (4, .int x4)] [] M) (h : B_L_law_838 xs nS k23 x4 M = some 1) : V p l e room_1 (s.setDrawn d0) m #[Value.ref b] below meth c 7 G (K0 + k + 1) (K1 + 6 * k + 6) (lw_Z below #[Value.ref b] s) 838 [(0, .ref b), (1, .ref (adr G 6 0)), (2, .ref (adr G 7 0)), (3, .ref (adr G 8 0)), (4, .int x4)] [] M := by
  refine V_goto hC 2323 dL_law_838 (by decide) ?_
  refine V_widen (k := K0 + (k + 1)) (n := K1 + 6 * (k + 1)) (by omega) (by omega) ?_
  exact b_L_law_2323 hC hr hlk hX hd0 hlt hsc hbl hbA hgA hkk hk23 h
theorem b_L_law_785 {xs : Nat → Int32} {nS : Nat} {k : Nat} {b : Nat} {d0 : Drawn} {k23 : Int32 → Mem → Option Int32} {x4 : Int32} {M : Mem} (hC : Cx p (s.setDrawn d0) m #[Value.ref b] c code RL 7 G) (hr : meth.sig.returnType = ret) (hlk : meth.locks = false) (hX : XF G (s.setDrawn d0)) (hd0 : s.drawn.sameBut d0 lw_cs) (hlt : l.stackTraces = false) (hsc : va_X b nS xs (s.setDrawn d0) (s.setDrawn d0).heap) (hbl : b < (s.setDrawn d0).heap.size) (hbA : ¬ gA G b) (hgA : ∀ q, gA G q → s.heap.size ≤ q) (hkk : k ≤ 512) (hk23 : ∀ (x4 : Int32) (M : Mem), k23 x4 M = some 1 → V p l e room_1 (s.setDrawn d0) m #[Value.ref b] below meth c 7 G (K0 + (k + 1)) (K1 + 6 * (k + 1)) (lw_Z below #[Value.ref b] s) 23 [(0, .ref b), (1, .ref (adr G 6 0)), (2, .ref (adr G 7 0)), (3, .ref (adr G 8 0)), (4, .int x4)] [] M) (h : B_L_law_785 xs nS k23 x4 M = some 1) : V p l e room_1 (s.setDrawn d0) m #[Value.ref b] below meth c 7 G (K0 + k) (K1 + 6 * k) (lw_Z below #[Value.ref b] s) 785 [(0, .ref b), (1, .ref (adr G 6 0)), (2, .ref (adr G 7 0)), (3, .ref (adr G 8 0)), (4, .int x4)] [] M := by
  refine V_aload_n hC dL_law_785 rfl 1 rfl ?_
  refine V_aload_n hC dL_law_786 rfl 0 rfl ?_
  refine V_iload hC dL_law_787 4 rfl ?_
  refine V_iconst hC (1 : Int32) dL_law_789 (by decide) ?_
  refine V_iadd hC dL_law_790 ?_
  obtain ⟨c100, h⟩ := ite_some h
  refine V_sld hC hsc hbl hbA c100 dL_law_791 ?_
  refine V_aload_n hC dL_law_792 rfl 3 rfl ?_
  obtain ⟨q101, e101, h⟩ := bind_some h
  refine V_cW hC hX [.ref (adr G 6 0), .int (xs (cl (x4 + (1 : Int32)))), .ref (adr G 8 0)] (c_L_cancel (l := l) (rv := q101.1) (Mf := q101.2) hlt hC.2.2.2.2.2.2.2 e101) kx_L_cancel gw_985 gw_984 ⟨Nat.le_of_ble_eq_true rfl, Nat.le_of_ble_eq_true rfl⟩ rfl (Nat.le_of_ble_eq_true rfl) dL_law_793 (law_rm hkk (by omega) (by omega)) rfl ?_
  refine V_istore hC ([(5, .int q101.1), (0, .ref b), (1, .ref (adr G 6 0)), (2, .ref (adr G 7 0)), (3, .ref (adr G 8 0)), (4, .int x4)]) dL_law_796 (by decide) rfl ?_
  refine V_aload_n hC dL_law_798 rfl 3 rfl ?_
  refine V_aload_n hC dL_law_799 rfl 1 rfl ?_
  refine V_iload hC dL_law_800 5 rfl ?_
  refine V_iconst hC (1 : Int32) dL_law_802 (by decide) ?_
  refine V_iadd hC dL_law_803 ?_
  obtain ⟨c102, h⟩ := ite_some h
  refine V_sld hC hsc hbl hbA c102 dL_law_804 ?_
  obtain ⟨q103, e103, h⟩ := bind_some h
  refine V_cVr hC [.int (xs (cl (x4 + (1 : Int32))))] (c_X9_cancel (l := l) (rv := q103.1) (Mf := q103.2) hC.2.2.2.2.2.2.2 e103) kd_X9_cancel kv_X9_cancel gw_1505 (r_m0_0).o rfl ⟨Nat.le_of_ble_eq_true rfl, Nat.le_of_ble_eq_true rfl⟩ rfl (Nat.le_of_ble_eq_true rfl) dL_law_805 (law_rm hkk (by omega) (by omega)) rfl ?_
  refine V_istore hC ([(6, .int q103.1), (5, .int q101.1), (0, .ref b), (1, .ref (adr G 6 0)), (2, .ref (adr G 7 0)), (3, .ref (adr G 8 0)), (4, .int x4)]) dL_law_808 (by decide) rfl ?_
  refine V_aload_n hC dL_law_810 rfl 4 rfl ?_
  refine V_cVr hC [] (c_X9_thrown (l := l) hC.2.2.2.2.2.2.2 rfl) kd_X9_thrown kv_X9_thrown gw_1310 (r_m0_0).o rfl ⟨Nat.le_of_ble_eq_true rfl, Nat.le_of_ble_eq_true rfl⟩ rfl (Nat.le_of_ble_eq_true rfl) dL_law_811 (law_rm hkk (by omega) (by omega)) rfl ?_
  refine V_iload hC dL_law_814 1 rfl ?_
  refine V_icmp_eq hC 821 dL_law_816 (by decide) (fun c105 => ?_) (fun c105 => ?_)
  · have h := ite_t c105 h
    refine V_iload hC dL_law_821 1 rfl ?_
    refine V_if_ne hC 838 dL_law_823 (by decide) (fun c106 => ?_) (fun c106 => ?_)
    · have h := ite_f c106 h
      refine V_sub [2, 3, 4, 5, 6] rfl ?_
      exact b_L_law_838 hC hr hlk hX hd0 hlt hsc hbl hbA hgA hkk hk23 h
    · have h := ite_t c106 h
      refine V_aload_n hC dL_law_826 rfl 5 rfl ?_
      refine V_iconst hC (0 : Int32) dL_law_827 (by decide) ?_
      refine V_lald hC rfl dL_law_828 ?_
      refine V_iload hC dL_law_829 0 rfl ?_
      refine V_i2l hC dL_law_831 ?_
      refine V_lcmp hC dL_law_832 ?_
      refine V_if_eq hC 838 dL_law_833 (by decide) (fun c107 => ?_) (fun c107 => ?_)
      · have h := ite_t c107 h
        refine V_sub [2, 3, 4, 5, 6] rfl ?_
        exact b_L_law_838 hC hr hlk hX hd0 hlt hsc hbl hbA hgA hkk hk23 h
      · have h := ite_f c107 h
        refine V_iconst hC (0 : Int32) dL_law_836 (by decide) ?_
        exact absurd h (by decide)
  · have h := ite_f c105 h
    refine V_iconst hC (0 : Int32) dL_law_819 (by decide) ?_
    exact absurd h (by decide)
theorem b_L_law_906 {xs : Nat → Int32} {nS : Nat} {k : Nat} {b : Nat} {d0 : Drawn} {k23 : Int32 → Mem → Option Int32} {x4 : Int32} {M : Mem} (hC : Cx p (s.setDrawn d0) m #[Value.ref b] c code RL 7 G) (hr : meth.sig.returnType = ret) (hlk : meth.locks = false) (hX : XF G (s.setDrawn d0)) (hd0 : s.drawn.sameBut d0 lw_cs) (hlt : l.stackTraces = false) (hsc : va_X b nS xs (s.setDrawn d0) (s.setDrawn d0).heap) (hbl : b < (s.setDrawn d0).heap.size) (hbA : ¬ gA G b) (hgA : ∀ q, gA G q → s.heap.size ≤ q) (hkk : k ≤ 512) (hk23 : ∀ (x4 : Int32) (M : Mem), k23 x4 M = some 1 → V p l e room_1 (s.setDrawn d0) m #[Value.ref b] below meth c 7 G (K0 + (k + 1)) (K1 + 6 * (k + 1)) (lw_Z below #[Value.ref b] s) 23 [(0, .ref b), (1, .ref (adr G 6 0)), (2, .ref (adr G 7 0)), (3, .ref (adr G 8 0)), (4, .int x4)] [] M) (h : B_L_law_906 xs nS k23 x4 M = some 1) : V p l e room_1 (s.setDrawn d0) m #[Value.ref b] below meth c 7 G (K0 + k + 1) (K1 + 6 * k + 6) (lw_Z below #[Value.ref b] s) 906 [(0, .ref b), (1, .ref (adr G 6 0)), (2, .ref (adr G 7 0)), (3, .ref (adr G 8 0)), (4, .int x4)] [] M := by
  refine V_goto hC 2323 dL_law_906 (by decide) ?_
  refine V_widen (k := K0 + (k + 1)) (n := K1 + 6 * (k + 1)) (by omega) (by omega) ?_
  exact b_L_law_2323 hC hr hlk hX hd0 hlt hsc hbl hbA hgA hkk hk23 h
theorem b_L_law_841 {xs : Nat → Int32} {nS : Nat} {k : Nat} {b : Nat} {d0 : Drawn} {k23 : Int32 → Mem → Option Int32} {x4 : Int32} {M : Mem} (hC : Cx p (s.setDrawn d0) m #[Value.ref b] c code RL 7 G) (hr : meth.sig.returnType = ret) (hlk : meth.locks = false) (hX : XF G (s.setDrawn d0)) (hd0 : s.drawn.sameBut d0 lw_cs) (hlt : l.stackTraces = false) (hsc : va_X b nS xs (s.setDrawn d0) (s.setDrawn d0).heap) (hbl : b < (s.setDrawn d0).heap.size) (hbA : ¬ gA G b) (hgA : ∀ q, gA G q → s.heap.size ≤ q) (hkk : k ≤ 512) (hk23 : ∀ (x4 : Int32) (M : Mem), k23 x4 M = some 1 → V p l e room_1 (s.setDrawn d0) m #[Value.ref b] below meth c 7 G (K0 + (k + 1)) (K1 + 6 * (k + 1)) (lw_Z below #[Value.ref b] s) 23 [(0, .ref b), (1, .ref (adr G 6 0)), (2, .ref (adr G 7 0)), (3, .ref (adr G 8 0)), (4, .int x4)] [] M) (h : B_L_law_841 xs nS k23 x4 M = some 1) : V p l e room_1 (s.setDrawn d0) m #[Value.ref b] below meth c 7 G (K0 + k) (K1 + 6 * k) (lw_Z below #[Value.ref b] s) 841 [(0, .ref b), (1, .ref (adr G 6 0)), (2, .ref (adr G 7 0)), (3, .ref (adr G 8 0)), (4, .int x4)] [] M := by
  refine V_aload_n hC dL_law_841 rfl 1 rfl ?_
  refine V_aload_n hC dL_law_842 rfl 0 rfl ?_
  refine V_iload hC dL_law_843 4 rfl ?_
  refine V_iconst hC (1 : Int32) dL_law_845 (by decide) ?_
  refine V_iadd hC dL_law_846 ?_
  obtain ⟨c109, h⟩ := ite_some h
  refine V_sld hC hsc hbl hbA c109 dL_law_847 ?_
  refine V_aload_n hC dL_law_848 rfl 0 rfl ?_
  refine V_iload hC dL_law_849 4 rfl ?_
  refine V_iconst hC (2 : Int32) dL_law_851 (by decide) ?_
  refine V_iadd hC dL_law_852 ?_
  obtain ⟨c110, h⟩ := ite_some h
  refine V_sld hC hsc hbl hbA c110 dL_law_853 ?_
  refine V_aload_n hC dL_law_854 rfl 3 rfl ?_
  obtain ⟨q111, e111, h⟩ := bind_some h
  refine V_cW hC hX [.ref (adr G 6 0), .int (xs (cl (x4 + (1 : Int32)))), .int (xs (cl (x4 + (2 : Int32)))), .ref (adr G 8 0)] (c_L_renew (l := l) (rv := q111.1) (Mf := q111.2) hlt hC.2.2.2.2.2.2.2 e111) kx_L_renew gw_1000 gw_999 ⟨Nat.le_of_ble_eq_true rfl, Nat.le_of_ble_eq_true rfl⟩ rfl (Nat.le_of_ble_eq_true rfl) dL_law_855 (law_rm hkk (by omega) (by omega)) rfl ?_
  refine V_istore hC ([(5, .int q111.1), (0, .ref b), (1, .ref (adr G 6 0)), (2, .ref (adr G 7 0)), (3, .ref (adr G 8 0)), (4, .int x4)]) dL_law_858 (by decide) rfl ?_
  refine V_aload_n hC dL_law_860 rfl 3 rfl ?_
  refine V_aload_n hC dL_law_861 rfl 1 rfl ?_
  refine V_iload hC dL_law_862 5 rfl ?_
  refine V_iconst hC (1 : Int32) dL_law_864 (by decide) ?_
  refine V_iadd hC dL_law_865 ?_
  obtain ⟨c112, h⟩ := ite_some h
  refine V_sld hC hsc hbl hbA c112 dL_law_866 ?_
  refine V_aload_n hC dL_law_867 rfl 1 rfl ?_
  refine V_iload hC dL_law_868 5 rfl ?_
  refine V_iconst hC (2 : Int32) dL_law_870 (by decide) ?_
  refine V_iadd hC dL_law_871 ?_
  obtain ⟨c113, h⟩ := ite_some h
  refine V_sld hC hsc hbl hbA c113 dL_law_872 ?_
  obtain ⟨q114, e114, h⟩ := bind_some h
  refine V_cVr hC [.int (xs (cl (x4 + (1 : Int32)))), .int (xs (cl (x4 + (2 : Int32))))] (c_X9_renew (l := l) (rv := q114.1) (Mf := q114.2) hC.2.2.2.2.2.2.2 e114) kd_X9_renew kv_X9_renew gw_1517 (r_m0_0).o rfl ⟨Nat.le_of_ble_eq_true rfl, Nat.le_of_ble_eq_true rfl⟩ rfl (Nat.le_of_ble_eq_true rfl) dL_law_873 (law_rm hkk (by omega) (by omega)) rfl ?_
  refine V_istore hC ([(6, .int q114.1), (5, .int q111.1), (0, .ref b), (1, .ref (adr G 6 0)), (2, .ref (adr G 7 0)), (3, .ref (adr G 8 0)), (4, .int x4)]) dL_law_876 (by decide) rfl ?_
  refine V_aload_n hC dL_law_878 rfl 4 rfl ?_
  refine V_cVr hC [] (c_X9_thrown (l := l) hC.2.2.2.2.2.2.2 rfl) kd_X9_thrown kv_X9_thrown gw_1310 (r_m0_0).o rfl ⟨Nat.le_of_ble_eq_true rfl, Nat.le_of_ble_eq_true rfl⟩ rfl (Nat.le_of_ble_eq_true rfl) dL_law_879 (law_rm hkk (by omega) (by omega)) rfl ?_
  refine V_iload hC dL_law_882 1 rfl ?_
  refine V_icmp_eq hC 889 dL_law_884 (by decide) (fun c116 => ?_) (fun c116 => ?_)
  · have h := ite_t c116 h
    refine V_iload hC dL_law_889 1 rfl ?_
    refine V_if_ne hC 906 dL_law_891 (by decide) (fun c117 => ?_) (fun c117 => ?_)
    · have h := ite_f c117 h
      refine V_sub [2, 3, 4, 5, 6] rfl ?_
      exact b_L_law_906 hC hr hlk hX hd0 hlt hsc hbl hbA hgA hkk hk23 h
    · have h := ite_t c117 h
      refine V_aload_n hC dL_law_894 rfl 5 rfl ?_
      refine V_iconst hC (0 : Int32) dL_law_895 (by decide) ?_
      refine V_lald hC rfl dL_law_896 ?_
      refine V_iload hC dL_law_897 0 rfl ?_
      refine V_i2l hC dL_law_899 ?_
      refine V_lcmp hC dL_law_900 ?_
      refine V_if_eq hC 906 dL_law_901 (by decide) (fun c118 => ?_) (fun c118 => ?_)
      · have h := ite_t c118 h
        refine V_sub [2, 3, 4, 5, 6] rfl ?_
        exact b_L_law_906 hC hr hlk hX hd0 hlt hsc hbl hbA hgA hkk hk23 h
      · have h := ite_f c118 h
        refine V_iconst hC (0 : Int32) dL_law_904 (by decide) ?_
        exact absurd h (by decide)
  · have h := ite_f c116 h
    refine V_iconst hC (0 : Int32) dL_law_887 (by decide) ?_
    exact absurd h (by decide)
theorem b_L_law_962 {xs : Nat → Int32} {nS : Nat} {k : Nat} {b : Nat} {d0 : Drawn} {k23 : Int32 → Mem → Option Int32} {x4 : Int32} {M : Mem} (hC : Cx p (s.setDrawn d0) m #[Value.ref b] c code RL 7 G) (hr : meth.sig.returnType = ret) (hlk : meth.locks = false) (hX : XF G (s.setDrawn d0)) (hd0 : s.drawn.sameBut d0 lw_cs) (hlt : l.stackTraces = false) (hsc : va_X b nS xs (s.setDrawn d0) (s.setDrawn d0).heap) (hbl : b < (s.setDrawn d0).heap.size) (hbA : ¬ gA G b) (hgA : ∀ q, gA G q → s.heap.size ≤ q) (hkk : k ≤ 512) (hk23 : ∀ (x4 : Int32) (M : Mem), k23 x4 M = some 1 → V p l e room_1 (s.setDrawn d0) m #[Value.ref b] below meth c 7 G (K0 + (k + 1)) (K1 + 6 * (k + 1)) (lw_Z below #[Value.ref b] s) 23 [(0, .ref b), (1, .ref (adr G 6 0)), (2, .ref (adr G 7 0)), (3, .ref (adr G 8 0)), (4, .int x4)] [] M) (h : B_L_law_962 xs nS k23 x4 M = some 1) : V p l e room_1 (s.setDrawn d0) m #[Value.ref b] below meth c 7 G (K0 + k + 1) (K1 + 6 * k + 6) (lw_Z below #[Value.ref b] s) 962 [(0, .ref b), (1, .ref (adr G 6 0)), (2, .ref (adr G 7 0)), (3, .ref (adr G 8 0)), (4, .int x4)] [] M := by
  refine V_goto hC 2323 dL_law_962 (by decide) ?_
  refine V_widen (k := K0 + (k + 1)) (n := K1 + 6 * (k + 1)) (by omega) (by omega) ?_
  exact b_L_law_2323 hC hr hlk hX hd0 hlt hsc hbl hbA hgA hkk hk23 h
theorem b_L_law_909 {xs : Nat → Int32} {nS : Nat} {k : Nat} {b : Nat} {d0 : Drawn} {k23 : Int32 → Mem → Option Int32} {x4 : Int32} {M : Mem} (hC : Cx p (s.setDrawn d0) m #[Value.ref b] c code RL 7 G) (hr : meth.sig.returnType = ret) (hlk : meth.locks = false) (hX : XF G (s.setDrawn d0)) (hd0 : s.drawn.sameBut d0 lw_cs) (hlt : l.stackTraces = false) (hsc : va_X b nS xs (s.setDrawn d0) (s.setDrawn d0).heap) (hbl : b < (s.setDrawn d0).heap.size) (hbA : ¬ gA G b) (hgA : ∀ q, gA G q → s.heap.size ≤ q) (hkk : k ≤ 512) (hk23 : ∀ (x4 : Int32) (M : Mem), k23 x4 M = some 1 → V p l e room_1 (s.setDrawn d0) m #[Value.ref b] below meth c 7 G (K0 + (k + 1)) (K1 + 6 * (k + 1)) (lw_Z below #[Value.ref b] s) 23 [(0, .ref b), (1, .ref (adr G 6 0)), (2, .ref (adr G 7 0)), (3, .ref (adr G 8 0)), (4, .int x4)] [] M) (h : B_L_law_909 xs nS k23 x4 M = some 1) : V p l e room_1 (s.setDrawn d0) m #[Value.ref b] below meth c 7 G (K0 + k) (K1 + 6 * k) (lw_Z below #[Value.ref b] s) 909 [(0, .ref b), (1, .ref (adr G 6 0)), (2, .ref (adr G 7 0)), (3, .ref (adr G 8 0)), (4, .int x4)] [] M := by
  refine V_aload_n hC dL_law_909 rfl 1 rfl ?_
  refine V_aload_n hC dL_law_910 rfl 0 rfl ?_
  refine V_iload hC dL_law_911 4 rfl ?_
  refine V_iconst hC (1 : Int32) dL_law_913 (by decide) ?_
  refine V_iadd hC dL_law_914 ?_
  obtain ⟨c120, h⟩ := ite_some h
  refine V_sld hC hsc hbl hbA c120 dL_law_915 ?_
  refine V_aload_n hC dL_law_916 rfl 3 rfl ?_
  obtain ⟨q121, e121, h⟩ := bind_some h
  refine V_cW hC hX [.ref (adr G 6 0), .int (xs (cl (x4 + (1 : Int32)))), .ref (adr G 8 0)] (c_L_breakUp (l := l) (rv := q121.1) (Mf := q121.2) hlt hC.2.2.2.2.2.2.2 e121) kx_L_breakUp gw_1019 gw_1018 ⟨Nat.le_of_ble_eq_true rfl, Nat.le_of_ble_eq_true rfl⟩ rfl (Nat.le_of_ble_eq_true rfl) dL_law_917 (law_rm hkk (by omega) (by omega)) rfl ?_
  refine V_istore hC ([(5, .int q121.1), (0, .ref b), (1, .ref (adr G 6 0)), (2, .ref (adr G 7 0)), (3, .ref (adr G 8 0)), (4, .int x4)]) dL_law_920 (by decide) rfl ?_
  refine V_aload_n hC dL_law_922 rfl 3 rfl ?_
  refine V_aload_n hC dL_law_923 rfl 1 rfl ?_
  refine V_iload hC dL_law_924 5 rfl ?_
  refine V_iconst hC (1 : Int32) dL_law_926 (by decide) ?_
  refine V_iadd hC dL_law_927 ?_
  obtain ⟨c122, h⟩ := ite_some h
  refine V_sld hC hsc hbl hbA c122 dL_law_928 ?_
  obtain ⟨q123, e123, h⟩ := bind_some h
  refine V_cVr hC [.int (xs (cl (x4 + (1 : Int32))))] (c_X9_breakUp (l := l) (rv := q123.1) (Mf := q123.2) hC.2.2.2.2.2.2.2 e123) kd_X9_breakUp kv_X9_breakUp gw_1521 (r_m0_0).o rfl ⟨Nat.le_of_ble_eq_true rfl, Nat.le_of_ble_eq_true rfl⟩ rfl (Nat.le_of_ble_eq_true rfl) dL_law_929 (law_rm hkk (by omega) (by omega)) rfl ?_
  refine V_istore hC ([(6, .int q123.1), (5, .int q121.1), (0, .ref b), (1, .ref (adr G 6 0)), (2, .ref (adr G 7 0)), (3, .ref (adr G 8 0)), (4, .int x4)]) dL_law_932 (by decide) rfl ?_
  refine V_aload_n hC dL_law_934 rfl 4 rfl ?_
  refine V_cVr hC [] (c_X9_thrown (l := l) hC.2.2.2.2.2.2.2 rfl) kd_X9_thrown kv_X9_thrown gw_1310 (r_m0_0).o rfl ⟨Nat.le_of_ble_eq_true rfl, Nat.le_of_ble_eq_true rfl⟩ rfl (Nat.le_of_ble_eq_true rfl) dL_law_935 (law_rm hkk (by omega) (by omega)) rfl ?_
  refine V_iload hC dL_law_938 1 rfl ?_
  refine V_icmp_eq hC 945 dL_law_940 (by decide) (fun c125 => ?_) (fun c125 => ?_)
  · have h := ite_t c125 h
    refine V_iload hC dL_law_945 1 rfl ?_
    refine V_if_ne hC 962 dL_law_947 (by decide) (fun c126 => ?_) (fun c126 => ?_)
    · have h := ite_f c126 h
      refine V_sub [2, 3, 4, 5, 6] rfl ?_
      exact b_L_law_962 hC hr hlk hX hd0 hlt hsc hbl hbA hgA hkk hk23 h
    · have h := ite_t c126 h
      refine V_aload_n hC dL_law_950 rfl 5 rfl ?_
      refine V_iconst hC (0 : Int32) dL_law_951 (by decide) ?_
      refine V_lald hC rfl dL_law_952 ?_
      refine V_iload hC dL_law_953 0 rfl ?_
      refine V_i2l hC dL_law_955 ?_
      refine V_lcmp hC dL_law_956 ?_
      refine V_if_eq hC 962 dL_law_957 (by decide) (fun c127 => ?_) (fun c127 => ?_)
      · have h := ite_t c127 h
        refine V_sub [2, 3, 4, 5, 6] rfl ?_
        exact b_L_law_962 hC hr hlk hX hd0 hlt hsc hbl hbA hgA hkk hk23 h
      · have h := ite_f c127 h
        refine V_iconst hC (0 : Int32) dL_law_960 (by decide) ?_
        exact absurd h (by decide)
  · have h := ite_f c125 h
    refine V_iconst hC (0 : Int32) dL_law_943 (by decide) ?_
    exact absurd h (by decide)
theorem b_L_law_1018 {xs : Nat → Int32} {nS : Nat} {k : Nat} {b : Nat} {d0 : Drawn} {k23 : Int32 → Mem → Option Int32} {x4 : Int32} {M : Mem} (hC : Cx p (s.setDrawn d0) m #[Value.ref b] c code RL 7 G) (hr : meth.sig.returnType = ret) (hlk : meth.locks = false) (hX : XF G (s.setDrawn d0)) (hd0 : s.drawn.sameBut d0 lw_cs) (hlt : l.stackTraces = false) (hsc : va_X b nS xs (s.setDrawn d0) (s.setDrawn d0).heap) (hbl : b < (s.setDrawn d0).heap.size) (hbA : ¬ gA G b) (hgA : ∀ q, gA G q → s.heap.size ≤ q) (hkk : k ≤ 512) (hk23 : ∀ (x4 : Int32) (M : Mem), k23 x4 M = some 1 → V p l e room_1 (s.setDrawn d0) m #[Value.ref b] below meth c 7 G (K0 + (k + 1)) (K1 + 6 * (k + 1)) (lw_Z below #[Value.ref b] s) 23 [(0, .ref b), (1, .ref (adr G 6 0)), (2, .ref (adr G 7 0)), (3, .ref (adr G 8 0)), (4, .int x4)] [] M) (h : B_L_law_1018 xs nS k23 x4 M = some 1) : V p l e room_1 (s.setDrawn d0) m #[Value.ref b] below meth c 7 G (K0 + k + 1) (K1 + 6 * k + 6) (lw_Z below #[Value.ref b] s) 1018 [(0, .ref b), (1, .ref (adr G 6 0)), (2, .ref (adr G 7 0)), (3, .ref (adr G 8 0)), (4, .int x4)] [] M := by
  refine V_goto hC 2323 dL_law_1018 (by decide) ?_
  refine V_widen (k := K0 + (k + 1)) (n := K1 + 6 * (k + 1)) (by omega) (by omega) ?_
  exact b_L_law_2323 hC hr hlk hX hd0 hlt hsc hbl hbA hgA hkk hk23 h
theorem b_L_law_965 {xs : Nat → Int32} {nS : Nat} {k : Nat} {b : Nat} {d0 : Drawn} {k23 : Int32 → Mem → Option Int32} {x4 : Int32} {M : Mem} (hC : Cx p (s.setDrawn d0) m #[Value.ref b] c code RL 7 G) (hr : meth.sig.returnType = ret) (hlk : meth.locks = false) (hX : XF G (s.setDrawn d0)) (hd0 : s.drawn.sameBut d0 lw_cs) (hlt : l.stackTraces = false) (hsc : va_X b nS xs (s.setDrawn d0) (s.setDrawn d0).heap) (hbl : b < (s.setDrawn d0).heap.size) (hbA : ¬ gA G b) (hgA : ∀ q, gA G q → s.heap.size ≤ q) (hkk : k ≤ 512) (hk23 : ∀ (x4 : Int32) (M : Mem), k23 x4 M = some 1 → V p l e room_1 (s.setDrawn d0) m #[Value.ref b] below meth c 7 G (K0 + (k + 1)) (K1 + 6 * (k + 1)) (lw_Z below #[Value.ref b] s) 23 [(0, .ref b), (1, .ref (adr G 6 0)), (2, .ref (adr G 7 0)), (3, .ref (adr G 8 0)), (4, .int x4)] [] M) (h : B_L_law_965 xs nS k23 x4 M = some 1) : V p l e room_1 (s.setDrawn d0) m #[Value.ref b] below meth c 7 G (K0 + k) (K1 + 6 * k) (lw_Z below #[Value.ref b] s) 965 [(0, .ref b), (1, .ref (adr G 6 0)), (2, .ref (adr G 7 0)), (3, .ref (adr G 8 0)), (4, .int x4)] [] M := by
  refine V_aload_n hC dL_law_965 rfl 1 rfl ?_
  refine V_aload_n hC dL_law_966 rfl 0 rfl ?_
  refine V_iload hC dL_law_967 4 rfl ?_
  refine V_iconst hC (1 : Int32) dL_law_969 (by decide) ?_
  refine V_iadd hC dL_law_970 ?_
  obtain ⟨c129, h⟩ := ite_some h
  refine V_sld hC hsc hbl hbA c129 dL_law_971 ?_
  refine V_aload_n hC dL_law_972 rfl 3 rfl ?_
  obtain ⟨q130, e130, h⟩ := bind_some h
  refine V_cW hC hX [.ref (adr G 6 0), .int (xs (cl (x4 + (1 : Int32)))), .ref (adr G 8 0)] (c_L_discard (l := l) (rv := q130.1) (Mf := q130.2) hlt hC.2.2.2.2.2.2.2 e130) kx_L_discard gw_1026 gw_1025 ⟨Nat.le_of_ble_eq_true rfl, Nat.le_of_ble_eq_true rfl⟩ rfl (Nat.le_of_ble_eq_true rfl) dL_law_973 (law_rm hkk (by omega) (by omega)) rfl ?_
  refine V_istore hC ([(5, .int q130.1), (0, .ref b), (1, .ref (adr G 6 0)), (2, .ref (adr G 7 0)), (3, .ref (adr G 8 0)), (4, .int x4)]) dL_law_976 (by decide) rfl ?_
  refine V_aload_n hC dL_law_978 rfl 3 rfl ?_
  refine V_aload_n hC dL_law_979 rfl 1 rfl ?_
  refine V_iload hC dL_law_980 5 rfl ?_
  refine V_iconst hC (1 : Int32) dL_law_982 (by decide) ?_
  refine V_iadd hC dL_law_983 ?_
  obtain ⟨c131, h⟩ := ite_some h
  refine V_sld hC hsc hbl hbA c131 dL_law_984 ?_
  obtain ⟨q132, e132, h⟩ := bind_some h
  refine V_cVr hC [.int (xs (cl (x4 + (1 : Int32))))] (c_X9_discard (l := l) (rv := q132.1) (Mf := q132.2) hC.2.2.2.2.2.2.2 e132) kd_X9_discard kv_X9_discard gw_1537 (r_m0_0).o rfl ⟨Nat.le_of_ble_eq_true rfl, Nat.le_of_ble_eq_true rfl⟩ rfl (Nat.le_of_ble_eq_true rfl) dL_law_985 (law_rm hkk (by omega) (by omega)) rfl ?_
  refine V_istore hC ([(6, .int q132.1), (5, .int q130.1), (0, .ref b), (1, .ref (adr G 6 0)), (2, .ref (adr G 7 0)), (3, .ref (adr G 8 0)), (4, .int x4)]) dL_law_988 (by decide) rfl ?_
  refine V_aload_n hC dL_law_990 rfl 4 rfl ?_
  refine V_cVr hC [] (c_X9_thrown (l := l) hC.2.2.2.2.2.2.2 rfl) kd_X9_thrown kv_X9_thrown gw_1310 (r_m0_0).o rfl ⟨Nat.le_of_ble_eq_true rfl, Nat.le_of_ble_eq_true rfl⟩ rfl (Nat.le_of_ble_eq_true rfl) dL_law_991 (law_rm hkk (by omega) (by omega)) rfl ?_
  refine V_iload hC dL_law_994 1 rfl ?_
  refine V_icmp_eq hC 1001 dL_law_996 (by decide) (fun c134 => ?_) (fun c134 => ?_)
  · have h := ite_t c134 h
    refine V_iload hC dL_law_1001 1 rfl ?_
    refine V_if_ne hC 1018 dL_law_1003 (by decide) (fun c135 => ?_) (fun c135 => ?_)
    · have h := ite_f c135 h
      refine V_sub [2, 3, 4, 5, 6] rfl ?_
      exact b_L_law_1018 hC hr hlk hX hd0 hlt hsc hbl hbA hgA hkk hk23 h
    · have h := ite_t c135 h
      refine V_aload_n hC dL_law_1006 rfl 5 rfl ?_
      refine V_iconst hC (0 : Int32) dL_law_1007 (by decide) ?_
      refine V_lald hC rfl dL_law_1008 ?_
      refine V_iload hC dL_law_1009 0 rfl ?_
      refine V_i2l hC dL_law_1011 ?_
      refine V_lcmp hC dL_law_1012 ?_
      refine V_if_eq hC 1018 dL_law_1013 (by decide) (fun c136 => ?_) (fun c136 => ?_)
      · have h := ite_t c136 h
        refine V_sub [2, 3, 4, 5, 6] rfl ?_
        exact b_L_law_1018 hC hr hlk hX hd0 hlt hsc hbl hbA hgA hkk hk23 h
      · have h := ite_f c136 h
        refine V_iconst hC (0 : Int32) dL_law_1016 (by decide) ?_
        exact absurd h (by decide)
  · have h := ite_f c134 h
    refine V_iconst hC (0 : Int32) dL_law_999 (by decide) ?_
    exact absurd h (by decide)
theorem b_L_law_1110 {xs : Nat → Int32} {nS : Nat} {k : Nat} {b : Nat} {d0 : Drawn} {k23 : Int32 → Mem → Option Int32} {x4 : Int32} {M : Mem} (hC : Cx p (s.setDrawn d0) m #[Value.ref b] c code RL 7 G) (hr : meth.sig.returnType = ret) (hlk : meth.locks = false) (hX : XF G (s.setDrawn d0)) (hd0 : s.drawn.sameBut d0 lw_cs) (hlt : l.stackTraces = false) (hsc : va_X b nS xs (s.setDrawn d0) (s.setDrawn d0).heap) (hbl : b < (s.setDrawn d0).heap.size) (hbA : ¬ gA G b) (hgA : ∀ q, gA G q → s.heap.size ≤ q) (hkk : k ≤ 512) (hk23 : ∀ (x4 : Int32) (M : Mem), k23 x4 M = some 1 → V p l e room_1 (s.setDrawn d0) m #[Value.ref b] below meth c 7 G (K0 + (k + 1)) (K1 + 6 * (k + 1)) (lw_Z below #[Value.ref b] s) 23 [(0, .ref b), (1, .ref (adr G 6 0)), (2, .ref (adr G 7 0)), (3, .ref (adr G 8 0)), (4, .int x4)] [] M) (h : B_L_law_1110 xs nS k23 x4 M = some 1) : V p l e room_1 (s.setDrawn d0) m #[Value.ref b] below meth c 7 G (K0 + k + 1) (K1 + 6 * k + 6) (lw_Z below #[Value.ref b] s) 1110 [(0, .ref b), (1, .ref (adr G 6 0)), (2, .ref (adr G 7 0)), (3, .ref (adr G 8 0)), (4, .int x4)] [] M := by
  refine V_goto hC 2323 dL_law_1110 (by decide) ?_
  refine V_widen (k := K0 + (k + 1)) (n := K1 + 6 * (k + 1)) (by omega) (by omega) ?_
  exact b_L_law_2323 hC hr hlk hX hd0 hlt hsc hbl hbA hgA hkk hk23 h
theorem b_L_law_1021 {xs : Nat → Int32} {nS : Nat} {k : Nat} {b : Nat} {d0 : Drawn} {k23 : Int32 → Mem → Option Int32} {x4 : Int32} {M : Mem} (hC : Cx p (s.setDrawn d0) m #[Value.ref b] c code RL 7 G) (hr : meth.sig.returnType = ret) (hlk : meth.locks = false) (hX : XF G (s.setDrawn d0)) (hd0 : s.drawn.sameBut d0 lw_cs) (hlt : l.stackTraces = false) (hsc : va_X b nS xs (s.setDrawn d0) (s.setDrawn d0).heap) (hbl : b < (s.setDrawn d0).heap.size) (hbA : ¬ gA G b) (hgA : ∀ q, gA G q → s.heap.size ≤ q) (hkk : k ≤ 512) (hk23 : ∀ (x4 : Int32) (M : Mem), k23 x4 M = some 1 → V p l e room_1 (s.setDrawn d0) m #[Value.ref b] below meth c 7 G (K0 + (k + 1)) (K1 + 6 * (k + 1)) (lw_Z below #[Value.ref b] s) 23 [(0, .ref b), (1, .ref (adr G 6 0)), (2, .ref (adr G 7 0)), (3, .ref (adr G 8 0)), (4, .int x4)] [] M) (h : B_L_law_1021 xs nS k23 x4 M = some 1) : V p l e room_1 (s.setDrawn d0) m #[Value.ref b] below meth c 7 G (K0 + k) (K1 + 6 * k) (lw_Z below #[Value.ref b] s) 1021 [(0, .ref b), (1, .ref (adr G 6 0)), (2, .ref (adr G 7 0)), (3, .ref (adr G 8 0)), (4, .int x4)] [] M := by
  refine V_aload_n hC dL_law_1021 rfl 1 rfl ?_
  refine V_aload_n hC dL_law_1022 rfl 0 rfl ?_
  refine V_iload hC dL_law_1023 4 rfl ?_
  refine V_iconst hC (1 : Int32) dL_law_1025 (by decide) ?_
  refine V_iadd hC dL_law_1026 ?_
  obtain ⟨c138, h⟩ := ite_some h
  refine V_sld hC hsc hbl hbA c138 dL_law_1027 ?_
  refine V_aload_n hC dL_law_1028 rfl 0 rfl ?_
  refine V_iload hC dL_law_1029 4 rfl ?_
  refine V_iconst hC (2 : Int32) dL_law_1031 (by decide) ?_
  refine V_iadd hC dL_law_1032 ?_
  obtain ⟨c139, h⟩ := ite_some h
  refine V_sld hC hsc hbl hbA c139 dL_law_1033 ?_
  refine V_aload_n hC dL_law_1034 rfl 0 rfl ?_
  refine V_iload hC dL_law_1035 4 rfl ?_
  refine V_iconst hC (3 : Int32) dL_law_1037 (by decide) ?_
  refine V_iadd hC dL_law_1038 ?_
  obtain ⟨c140, h⟩ := ite_some h
  refine V_sld hC hsc hbl hbA c140 dL_law_1039 ?_
  refine V_aload_n hC dL_law_1040 rfl 0 rfl ?_
  refine V_iload hC dL_law_1041 4 rfl ?_
  refine V_iconst hC (4 : Int32) dL_law_1043 (by decide) ?_
  refine V_iadd hC dL_law_1044 ?_
  obtain ⟨c141, h⟩ := ite_some h
  refine V_sld hC hsc hbl hbA c141 dL_law_1045 ?_
  refine V_aload_n hC dL_law_1046 rfl 3 rfl ?_
  obtain ⟨q142, e142, h⟩ := bind_some h
  refine V_cW hC hX [.ref (adr G 6 0), .int (xs (cl (x4 + (1 : Int32)))), .int (xs (cl (x4 + (2 : Int32)))), .int (xs (cl (x4 + (3 : Int32)))), .int (xs (cl (x4 + (4 : Int32)))), .ref (adr G 8 0)] (c_L_edit (l := l) (rv := q142.1) (Mf := q142.2) hlt hC.2.2.2.2.2.2.2 e142) kx_L_edit gw_1033 gw_1032 ⟨Nat.le_of_ble_eq_true rfl, Nat.le_of_ble_eq_true rfl⟩ rfl (Nat.le_of_ble_eq_true rfl) dL_law_1047 (law_rm hkk (by omega) (by omega)) rfl ?_
  refine V_istore hC ([(5, .int q142.1), (0, .ref b), (1, .ref (adr G 6 0)), (2, .ref (adr G 7 0)), (3, .ref (adr G 8 0)), (4, .int x4)]) dL_law_1050 (by decide) rfl ?_
  refine V_aload_n hC dL_law_1052 rfl 3 rfl ?_
  refine V_aload_n hC dL_law_1053 rfl 1 rfl ?_
  refine V_iload hC dL_law_1054 5 rfl ?_
  refine V_iconst hC (1 : Int32) dL_law_1056 (by decide) ?_
  refine V_iadd hC dL_law_1057 ?_
  obtain ⟨c143, h⟩ := ite_some h
  refine V_sld hC hsc hbl hbA c143 dL_law_1058 ?_
  refine V_aload_n hC dL_law_1059 rfl 1 rfl ?_
  refine V_iload hC dL_law_1060 5 rfl ?_
  refine V_iconst hC (2 : Int32) dL_law_1062 (by decide) ?_
  refine V_iadd hC dL_law_1063 ?_
  obtain ⟨c144, h⟩ := ite_some h
  refine V_sld hC hsc hbl hbA c144 dL_law_1064 ?_
  refine V_aload_n hC dL_law_1065 rfl 1 rfl ?_
  refine V_iload hC dL_law_1066 5 rfl ?_
  refine V_iconst hC (3 : Int32) dL_law_1068 (by decide) ?_
  refine V_iadd hC dL_law_1069 ?_
  obtain ⟨c145, h⟩ := ite_some h
  refine V_sld hC hsc hbl hbA c145 dL_law_1070 ?_
  refine V_aload_n hC dL_law_1071 rfl 1 rfl ?_
  refine V_iload hC dL_law_1072 5 rfl ?_
  refine V_iconst hC (4 : Int32) dL_law_1074 (by decide) ?_
  refine V_iadd hC dL_law_1075 ?_
  obtain ⟨c146, h⟩ := ite_some h
  refine V_sld hC hsc hbl hbA c146 dL_law_1076 ?_
  obtain ⟨q147, e147, h⟩ := bind_some h
  refine V_cVr hC [.int (xs (cl (x4 + (1 : Int32)))), .int (xs (cl (x4 + (2 : Int32)))), .int (xs (cl (x4 + (3 : Int32)))), .int (xs (cl (x4 + (4 : Int32))))] (c_X9_edit (l := l) (rv := q147.1) (Mf := q147.2) hC.2.2.2.2.2.2.2 e147) kd_X9_edit kv_X9_edit gw_1549 (r_m0_0).o rfl ⟨Nat.le_of_ble_eq_true rfl, Nat.le_of_ble_eq_true rfl⟩ rfl (Nat.le_of_ble_eq_true rfl) dL_law_1077 (law_rm hkk (by omega) (by omega)) rfl ?_
  refine V_istore hC ([(6, .int q147.1), (5, .int q142.1), (0, .ref b), (1, .ref (adr G 6 0)), (2, .ref (adr G 7 0)), (3, .ref (adr G 8 0)), (4, .int x4)]) dL_law_1080 (by decide) rfl ?_
  refine V_aload_n hC dL_law_1082 rfl 4 rfl ?_
  refine V_cVr hC [] (c_X9_thrown (l := l) hC.2.2.2.2.2.2.2 rfl) kd_X9_thrown kv_X9_thrown gw_1310 (r_m0_0).o rfl ⟨Nat.le_of_ble_eq_true rfl, Nat.le_of_ble_eq_true rfl⟩ rfl (Nat.le_of_ble_eq_true rfl) dL_law_1083 (law_rm hkk (by omega) (by omega)) rfl ?_
  refine V_iload hC dL_law_1086 1 rfl ?_
  refine V_icmp_eq hC 1093 dL_law_1088 (by decide) (fun c149 => ?_) (fun c149 => ?_)
  · have h := ite_t c149 h
    refine V_iload hC dL_law_1093 1 rfl ?_
    refine V_if_ne hC 1110 dL_law_1095 (by decide) (fun c150 => ?_) (fun c150 => ?_)
    · have h := ite_f c150 h
      refine V_sub [2, 3, 4, 5, 6] rfl ?_
      exact b_L_law_1110 hC hr hlk hX hd0 hlt hsc hbl hbA hgA hkk hk23 h
    · have h := ite_t c150 h
      refine V_aload_n hC dL_law_1098 rfl 5 rfl ?_
      refine V_iconst hC (0 : Int32) dL_law_1099 (by decide) ?_
      refine V_lald hC rfl dL_law_1100 ?_
      refine V_iload hC dL_law_1101 0 rfl ?_
      refine V_i2l hC dL_law_1103 ?_
      refine V_lcmp hC dL_law_1104 ?_
      refine V_if_eq hC 1110 dL_law_1105 (by decide) (fun c151 => ?_) (fun c151 => ?_)
      · have h := ite_t c151 h
        refine V_sub [2, 3, 4, 5, 6] rfl ?_
        exact b_L_law_1110 hC hr hlk hX hd0 hlt hsc hbl hbA hgA hkk hk23 h
      · have h := ite_f c151 h
        refine V_iconst hC (0 : Int32) dL_law_1108 (by decide) ?_
        exact absurd h (by decide)
  · have h := ite_f c149 h
    refine V_iconst hC (0 : Int32) dL_law_1091 (by decide) ?_
    exact absurd h (by decide)
theorem b_L_law_1218 {xs : Nat → Int32} {nS : Nat} {k : Nat} {b : Nat} {d0 : Drawn} {k23 : Int32 → Mem → Option Int32} {x4 : Int32} {M : Mem} (hC : Cx p (s.setDrawn d0) m #[Value.ref b] c code RL 7 G) (hr : meth.sig.returnType = ret) (hlk : meth.locks = false) (hX : XF G (s.setDrawn d0)) (hd0 : s.drawn.sameBut d0 lw_cs) (hlt : l.stackTraces = false) (hsc : va_X b nS xs (s.setDrawn d0) (s.setDrawn d0).heap) (hbl : b < (s.setDrawn d0).heap.size) (hbA : ¬ gA G b) (hgA : ∀ q, gA G q → s.heap.size ≤ q) (hkk : k ≤ 512) (hk23 : ∀ (x4 : Int32) (M : Mem), k23 x4 M = some 1 → V p l e room_1 (s.setDrawn d0) m #[Value.ref b] below meth c 7 G (K0 + (k + 1)) (K1 + 6 * (k + 1)) (lw_Z below #[Value.ref b] s) 23 [(0, .ref b), (1, .ref (adr G 6 0)), (2, .ref (adr G 7 0)), (3, .ref (adr G 8 0)), (4, .int x4)] [] M) (h : B_L_law_1218 xs nS k23 x4 M = some 1) : V p l e room_1 (s.setDrawn d0) m #[Value.ref b] below meth c 7 G (K0 + k + 1) (K1 + 6 * k + 6) (lw_Z below #[Value.ref b] s) 1218 [(0, .ref b), (1, .ref (adr G 6 0)), (2, .ref (adr G 7 0)), (3, .ref (adr G 8 0)), (4, .int x4)] [] M := by
  refine V_goto hC 2323 dL_law_1218 (by decide) ?_
  refine V_widen (k := K0 + (k + 1)) (n := K1 + 6 * (k + 1)) (by omega) (by omega) ?_
  exact b_L_law_2323 hC hr hlk hX hd0 hlt hsc hbl hbA hgA hkk hk23 h
theorem b_L_law_1185 {xs : Nat → Int32} {nS : Nat} {k : Nat} {b : Nat} {d0 : Drawn} {k23 : Int32 → Mem → Option Int32} {x4 : Int32} {x5 : Int32} {z0 : Int32} {z1 : Int32} {z2 : Int32} {z3 : Int32} {M : Mem} (hC : Cx p (s.setDrawn d0) m #[Value.ref b] c code RL 7 G) (hr : meth.sig.returnType = ret) (hlk : meth.locks = false) (hX : XF G (s.setDrawn d0)) (hd0 : s.drawn.sameBut d0 lw_cs) (hlt : l.stackTraces = false) (hsc : va_X b nS xs (s.setDrawn d0) (s.setDrawn d0).heap) (hbl : b < (s.setDrawn d0).heap.size) (hbA : ¬ gA G b) (hgA : ∀ q, gA G q → s.heap.size ≤ q) (hkk : k ≤ 512) (hk23 : ∀ (x4 : Int32) (M : Mem), k23 x4 M = some 1 → V p l e room_1 (s.setDrawn d0) m #[Value.ref b] below meth c 7 G (K0 + (k + 1)) (K1 + 6 * (k + 1)) (lw_Z below #[Value.ref b] s) 23 [(0, .ref b), (1, .ref (adr G 6 0)), (2, .ref (adr G 7 0)), (3, .ref (adr G 8 0)), (4, .int x4)] [] M) (h : B_L_law_1185 xs nS k23 x4 x5 z0 z1 z2 z3 M = some 1) : V p l e room_1 (s.setDrawn d0) m #[Value.ref b] below meth c 7 G (K0 + k + 1) (K1 + 6 * k + 6) (lw_Z below #[Value.ref b] s) 1185 [(0, .ref b), (1, .ref (adr G 6 0)), (2, .ref (adr G 7 0)), (3, .ref (adr G 8 0)), (4, .int x4), (5, .int x5)] [.int z0, .int z1, .int z2, .int z3, .ref (adr G 7 0)] M := by
  obtain ⟨q164, e164, h⟩ := bind_some h
  refine V_cVr hC [.int z3, .int z2, .int z1, .int z0] (c_X9_copied (l := l) (rv := q164.1) (Mf := q164.2) hC.2.2.2.2.2.2.2 e164) kd_X9_copied kv_X9_copied gw_1565 (r_m0_0).o rfl ⟨Nat.le_of_ble_eq_true rfl, Nat.le_of_ble_eq_true rfl⟩ rfl (Nat.le_of_ble_eq_true rfl) dL_law_1185 (law_rm hkk (by omega) (by omega)) rfl ?_
  refine V_istore hC ([(6, .int q164.1), (0, .ref b), (1, .ref (adr G 6 0)), (2, .ref (adr G 7 0)), (3, .ref (adr G 8 0)), (4, .int x4), (5, .int x5)]) dL_law_1188 (by decide) rfl ?_
  refine V_aload_n hC dL_law_1190 rfl 3 rfl ?_
  refine V_cVr hC [] (c_X9_thrown (l := l) hC.2.2.2.2.2.2.2 rfl) kd_X9_thrown kv_X9_thrown gw_1310 (r_m0_0).o rfl ⟨Nat.le_of_ble_eq_true rfl, Nat.le_of_ble_eq_true rfl⟩ rfl (Nat.le_of_ble_eq_true rfl) dL_law_1191 (law_rm hkk (by omega) (by omega)) rfl ?_
  refine V_iload hC dL_law_1194 6 rfl ?_
  refine V_icmp_eq hC 1201 dL_law_1196 (by decide) (fun c166 => ?_) (fun c166 => ?_)
  · have h := ite_t c166 h
    refine V_iload hC dL_law_1201 6 rfl ?_
    refine V_if_ne hC 1218 dL_law_1203 (by decide) (fun c167 => ?_) (fun c167 => ?_)
    · have h := ite_f c167 h
      refine V_sub [1, 2, 3, 4, 5] rfl ?_
      exact b_L_law_1218 hC hr hlk hX hd0 hlt hsc hbl hbA hgA hkk hk23 h
    · have h := ite_t c167 h
      refine V_aload_n hC dL_law_1206 rfl 4 rfl ?_
      refine V_iconst hC (0 : Int32) dL_law_1207 (by decide) ?_
      refine V_lald hC rfl dL_law_1208 ?_
      refine V_iload hC dL_law_1209 0 rfl ?_
      refine V_i2l hC dL_law_1211 ?_
      refine V_lcmp hC dL_law_1212 ?_
      refine V_if_eq hC 1218 dL_law_1213 (by decide) (fun c168 => ?_) (fun c168 => ?_)
      · have h := ite_t c168 h
        refine V_sub [1, 2, 3, 4, 5] rfl ?_
        exact b_L_law_1218 hC hr hlk hX hd0 hlt hsc hbl hbA hgA hkk hk23 h
      · have h := ite_f c168 h
        refine V_iconst hC (0 : Int32) dL_law_1216 (by decide) ?_
        exact absurd h (by decide)
  · have h := ite_f c166 h
    refine V_iconst hC (0 : Int32) dL_law_1199 (by decide) ?_
    exact absurd h (by decide)
theorem b_L_law_1146 {xs : Nat → Int32} {nS : Nat} {k : Nat} {b : Nat} {d0 : Drawn} {k23 : Int32 → Mem → Option Int32} {x4 : Int32} {z0 : Int32} {z1 : Int32} {z2 : Int32} {z3 : Int32} {M : Mem} (hC : Cx p (s.setDrawn d0) m #[Value.ref b] c code RL 7 G) (hr : meth.sig.returnType = ret) (hlk : meth.locks = false) (hX : XF G (s.setDrawn d0)) (hd0 : s.drawn.sameBut d0 lw_cs) (hlt : l.stackTraces = false) (hsc : va_X b nS xs (s.setDrawn d0) (s.setDrawn d0).heap) (hbl : b < (s.setDrawn d0).heap.size) (hbA : ¬ gA G b) (hgA : ∀ q, gA G q → s.heap.size ≤ q) (hkk : k ≤ 512) (hk23 : ∀ (x4 : Int32) (M : Mem), k23 x4 M = some 1 → V p l e room_1 (s.setDrawn d0) m #[Value.ref b] below meth c 7 G (K0 + (k + 1)) (K1 + 6 * (k + 1)) (lw_Z below #[Value.ref b] s) 23 [(0, .ref b), (1, .ref (adr G 6 0)), (2, .ref (adr G 7 0)), (3, .ref (adr G 8 0)), (4, .int x4)] [] M) (h : B_L_law_1146 xs nS k23 x4 z0 z1 z2 z3 M = some 1) : V p l e room_1 (s.setDrawn d0) m #[Value.ref b] below meth c 7 G (K0 + k) (K1 + 6 * k) (lw_Z below #[Value.ref b] s) 1146 [(0, .ref b), (1, .ref (adr G 6 0)), (2, .ref (adr G 7 0)), (3, .ref (adr G 8 0)), (4, .int x4)] [.int z0, .int z1, .int z2, .int z3, .ref (adr G 6 0)] M := by
  refine V_aload_n hC dL_law_1146 rfl 3 rfl ?_
  obtain ⟨q158, e158, h⟩ := bind_some h
  refine V_cW hC hX [.ref (adr G 6 0), .int z3, .int z2, .int z1, .int z0, .ref (adr G 8 0)] (c_L_copied (l := l) (rv := q158.1) (Mf := q158.2) hlt hC.2.2.2.2.2.2.2 e158) kx_L_copied gw_1040 gw_1039 ⟨Nat.le_of_ble_eq_true rfl, Nat.le_of_ble_eq_true rfl⟩ rfl (Nat.le_of_ble_eq_true rfl) dL_law_1147 (law_rm hkk (by omega) (by omega)) rfl ?_
  refine V_istore hC ([(5, .int q158.1), (0, .ref b), (1, .ref (adr G 6 0)), (2, .ref (adr G 7 0)), (3, .ref (adr G 8 0)), (4, .int x4)]) dL_law_1150 (by decide) rfl ?_
  refine V_aload_n hC dL_law_1152 rfl 3 rfl ?_
  refine V_aload_n hC dL_law_1153 rfl 1 rfl ?_
  refine V_iload hC dL_law_1154 5 rfl ?_
  refine V_iconst hC (1 : Int32) dL_law_1156 (by decide) ?_
  refine V_iadd hC dL_law_1157 ?_
  obtain ⟨c159, h⟩ := ite_some h
  refine V_sld hC hsc hbl hbA c159 dL_law_1158 ?_
  refine V_aload_n hC dL_law_1159 rfl 1 rfl ?_
  refine V_iload hC dL_law_1160 5 rfl ?_
  refine V_iconst hC (2 : Int32) dL_law_1162 (by decide) ?_
  refine V_iadd hC dL_law_1163 ?_
  obtain ⟨c160, h⟩ := ite_some h
  refine V_sld hC hsc hbl hbA c160 dL_law_1164 ?_
  refine V_aload_n hC dL_law_1165 rfl 1 rfl ?_
  refine V_iload hC dL_law_1166 5 rfl ?_
  refine V_iconst hC (3 : Int32) dL_law_1168 (by decide) ?_
  refine V_iadd hC dL_law_1169 ?_
  obtain ⟨c161, h⟩ := ite_some h
  refine V_sld hC hsc hbl hbA c161 dL_law_1170 ?_
  refine V_aload_n hC dL_law_1171 rfl 1 rfl ?_
  refine V_iload hC dL_law_1172 5 rfl ?_
  refine V_iconst hC (4 : Int32) dL_law_1174 (by decide) ?_
  refine V_iadd hC dL_law_1175 ?_
  obtain ⟨c162, h⟩ := ite_some h
  refine V_sld hC hsc hbl hbA c162 dL_law_1176 ?_
  refine V_if_eq hC 1184 dL_law_1177 (by decide) (fun c163 => ?_) (fun c163 => ?_)
  · have h := ite_t c163 h
    refine V_iconst hC (0 : Int32) dL_law_1184 (by decide) ?_
    refine V_sub [1, 2, 3, 4, 5, 0] rfl ?_
    exact b_L_law_1185 hC hr hlk hX hd0 hlt hsc hbl hbA hgA hkk hk23 h
  · have h := ite_f c163 h
    refine V_iconst hC (1 : Int32) dL_law_1180 (by decide) ?_
    refine V_goto hC 1185 dL_law_1181 (by decide) ?_
    refine V_sub [1, 2, 3, 4, 5, 0] rfl ?_
    exact b_L_law_1185 hC hr hlk hX hd0 hlt hsc hbl hbA hgA hkk hk23 h
theorem b_L_law_1113 {xs : Nat → Int32} {nS : Nat} {k : Nat} {b : Nat} {d0 : Drawn} {k23 : Int32 → Mem → Option Int32} {x4 : Int32} {M : Mem} (hC : Cx p (s.setDrawn d0) m #[Value.ref b] c code RL 7 G) (hr : meth.sig.returnType = ret) (hlk : meth.locks = false) (hX : XF G (s.setDrawn d0)) (hd0 : s.drawn.sameBut d0 lw_cs) (hlt : l.stackTraces = false) (hsc : va_X b nS xs (s.setDrawn d0) (s.setDrawn d0).heap) (hbl : b < (s.setDrawn d0).heap.size) (hbA : ¬ gA G b) (hgA : ∀ q, gA G q → s.heap.size ≤ q) (hkk : k ≤ 512) (hk23 : ∀ (x4 : Int32) (M : Mem), k23 x4 M = some 1 → V p l e room_1 (s.setDrawn d0) m #[Value.ref b] below meth c 7 G (K0 + (k + 1)) (K1 + 6 * (k + 1)) (lw_Z below #[Value.ref b] s) 23 [(0, .ref b), (1, .ref (adr G 6 0)), (2, .ref (adr G 7 0)), (3, .ref (adr G 8 0)), (4, .int x4)] [] M) (h : B_L_law_1113 xs nS k23 x4 M = some 1) : V p l e room_1 (s.setDrawn d0) m #[Value.ref b] below meth c 7 G (K0 + k) (K1 + 6 * k) (lw_Z below #[Value.ref b] s) 1113 [(0, .ref b), (1, .ref (adr G 6 0)), (2, .ref (adr G 7 0)), (3, .ref (adr G 8 0)), (4, .int x4)] [] M := by
  refine V_aload_n hC dL_law_1113 rfl 1 rfl ?_
  refine V_aload_n hC dL_law_1114 rfl 0 rfl ?_
  refine V_iload hC dL_law_1115 4 rfl ?_
  refine V_iconst hC (1 : Int32) dL_law_1117 (by decide) ?_
  refine V_iadd hC dL_law_1118 ?_
  obtain ⟨c153, h⟩ := ite_some h
  refine V_sld hC hsc hbl hbA c153 dL_law_1119 ?_
  refine V_aload_n hC dL_law_1120 rfl 0 rfl ?_
  refine V_iload hC dL_law_1121 4 rfl ?_
  refine V_iconst hC (2 : Int32) dL_law_1123 (by decide) ?_
  refine V_iadd hC dL_law_1124 ?_
  obtain ⟨c154, h⟩ := ite_some h
  refine V_sld hC hsc hbl hbA c154 dL_law_1125 ?_
  refine V_aload_n hC dL_law_1126 rfl 0 rfl ?_
  refine V_iload hC dL_law_1127 4 rfl ?_
  refine V_iconst hC (3 : Int32) dL_law_1129 (by decide) ?_
  refine V_iadd hC dL_law_1130 ?_
  obtain ⟨c155, h⟩ := ite_some h
  refine V_sld hC hsc hbl hbA c155 dL_law_1131 ?_
  refine V_aload_n hC dL_law_1132 rfl 0 rfl ?_
  refine V_iload hC dL_law_1133 4 rfl ?_
  refine V_iconst hC (4 : Int32) dL_law_1135 (by decide) ?_
  refine V_iadd hC dL_law_1136 ?_
  obtain ⟨c156, h⟩ := ite_some h
  refine V_sld hC hsc hbl hbA c156 dL_law_1137 ?_
  refine V_if_eq hC 1145 dL_law_1138 (by decide) (fun c157 => ?_) (fun c157 => ?_)
  · have h := ite_t c157 h
    refine V_iconst hC (0 : Int32) dL_law_1145 (by decide) ?_
    exact b_L_law_1146 hC hr hlk hX hd0 hlt hsc hbl hbA hgA hkk hk23 h
  · have h := ite_f c157 h
    refine V_iconst hC (1 : Int32) dL_law_1141 (by decide) ?_
    refine V_goto hC 1146 dL_law_1142 (by decide) ?_
    exact b_L_law_1146 hC hr hlk hX hd0 hlt hsc hbl hbA hgA hkk hk23 h
theorem b_L_law_1274 {xs : Nat → Int32} {nS : Nat} {k : Nat} {b : Nat} {d0 : Drawn} {k23 : Int32 → Mem → Option Int32} {x4 : Int32} {M : Mem} (hC : Cx p (s.setDrawn d0) m #[Value.ref b] c code RL 7 G) (hr : meth.sig.returnType = ret) (hlk : meth.locks = false) (hX : XF G (s.setDrawn d0)) (hd0 : s.drawn.sameBut d0 lw_cs) (hlt : l.stackTraces = false) (hsc : va_X b nS xs (s.setDrawn d0) (s.setDrawn d0).heap) (hbl : b < (s.setDrawn d0).heap.size) (hbA : ¬ gA G b) (hgA : ∀ q, gA G q → s.heap.size ≤ q) (hkk : k ≤ 512) (hk23 : ∀ (x4 : Int32) (M : Mem), k23 x4 M = some 1 → V p l e room_1 (s.setDrawn d0) m #[Value.ref b] below meth c 7 G (K0 + (k + 1)) (K1 + 6 * (k + 1)) (lw_Z below #[Value.ref b] s) 23 [(0, .ref b), (1, .ref (adr G 6 0)), (2, .ref (adr G 7 0)), (3, .ref (adr G 8 0)), (4, .int x4)] [] M) (h : B_L_law_1274 xs nS k23 x4 M = some 1) : V p l e room_1 (s.setDrawn d0) m #[Value.ref b] below meth c 7 G (K0 + k + 1) (K1 + 6 * k + 6) (lw_Z below #[Value.ref b] s) 1274 [(0, .ref b), (1, .ref (adr G 6 0)), (2, .ref (adr G 7 0)), (3, .ref (adr G 8 0)), (4, .int x4)] [] M := by
  refine V_goto hC 2323 dL_law_1274 (by decide) ?_
  refine V_widen (k := K0 + (k + 1)) (n := K1 + 6 * (k + 1)) (by omega) (by omega) ?_
  exact b_L_law_2323 hC hr hlk hX hd0 hlt hsc hbl hbA hgA hkk hk23 h
theorem b_L_law_1221 {xs : Nat → Int32} {nS : Nat} {k : Nat} {b : Nat} {d0 : Drawn} {k23 : Int32 → Mem → Option Int32} {x4 : Int32} {M : Mem} (hC : Cx p (s.setDrawn d0) m #[Value.ref b] c code RL 7 G) (hr : meth.sig.returnType = ret) (hlk : meth.locks = false) (hX : XF G (s.setDrawn d0)) (hd0 : s.drawn.sameBut d0 lw_cs) (hlt : l.stackTraces = false) (hsc : va_X b nS xs (s.setDrawn d0) (s.setDrawn d0).heap) (hbl : b < (s.setDrawn d0).heap.size) (hbA : ¬ gA G b) (hgA : ∀ q, gA G q → s.heap.size ≤ q) (hkk : k ≤ 512) (hk23 : ∀ (x4 : Int32) (M : Mem), k23 x4 M = some 1 → V p l e room_1 (s.setDrawn d0) m #[Value.ref b] below meth c 7 G (K0 + (k + 1)) (K1 + 6 * (k + 1)) (lw_Z below #[Value.ref b] s) 23 [(0, .ref b), (1, .ref (adr G 6 0)), (2, .ref (adr G 7 0)), (3, .ref (adr G 8 0)), (4, .int x4)] [] M) (h : B_L_law_1221 xs nS k23 x4 M = some 1) : V p l e room_1 (s.setDrawn d0) m #[Value.ref b] below meth c 7 G (K0 + k) (K1 + 6 * k) (lw_Z below #[Value.ref b] s) 1221 [(0, .ref b), (1, .ref (adr G 6 0)), (2, .ref (adr G 7 0)), (3, .ref (adr G 8 0)), (4, .int x4)] [] M := by
  refine V_aload_n hC dL_law_1221 rfl 1 rfl ?_
  refine V_aload_n hC dL_law_1222 rfl 0 rfl ?_
  refine V_iload hC dL_law_1223 4 rfl ?_
  refine V_iconst hC (1 : Int32) dL_law_1225 (by decide) ?_
  refine V_iadd hC dL_law_1226 ?_
  obtain ⟨c170, h⟩ := ite_some h
  refine V_sld hC hsc hbl hbA c170 dL_law_1227 ?_
  refine V_aload_n hC dL_law_1228 rfl 3 rfl ?_
  obtain ⟨q171, e171, h⟩ := bind_some h
  refine V_cW hC hX [.ref (adr G 6 0), .int (xs (cl (x4 + (1 : Int32)))), .ref (adr G 8 0)] (c_L_conflicts (l := l) (rv := q171.1) (Mf := q171.2) hlt hC.2.2.2.2.2.2.2 e171) kx_L_conflicts gw_1050 gw_1049 ⟨Nat.le_of_ble_eq_true rfl, Nat.le_of_ble_eq_true rfl⟩ rfl (Nat.le_of_ble_eq_true rfl) dL_law_1229 (law_rm hkk (by omega) (by omega)) rfl ?_
  refine V_istore hC ([(5, .int q171.1), (0, .ref b), (1, .ref (adr G 6 0)), (2, .ref (adr G 7 0)), (3, .ref (adr G 8 0)), (4, .int x4)]) dL_law_1232 (by decide) rfl ?_
  refine V_aload_n hC dL_law_1234 rfl 3 rfl ?_
  refine V_aload_n hC dL_law_1235 rfl 1 rfl ?_
  refine V_iload hC dL_law_1236 5 rfl ?_
  refine V_iconst hC (1 : Int32) dL_law_1238 (by decide) ?_
  refine V_iadd hC dL_law_1239 ?_
  obtain ⟨c172, h⟩ := ite_some h
  refine V_sld hC hsc hbl hbA c172 dL_law_1240 ?_
  obtain ⟨q173, e173, h⟩ := bind_some h
  refine V_cVr hC [.int (xs (cl (x4 + (1 : Int32))))] (c_X9_conflicts (l := l) (rv := q173.1) (Mf := q173.2) hC.2.2.2.2.2.2.2 e173) kd_X9_conflicts kv_X9_conflicts gw_1569 (r_m0_0).o rfl ⟨Nat.le_of_ble_eq_true rfl, Nat.le_of_ble_eq_true rfl⟩ rfl (Nat.le_of_ble_eq_true rfl) dL_law_1241 (law_rm hkk (by omega) (by omega)) rfl ?_
  refine V_istore hC ([(6, .int q173.1), (5, .int q171.1), (0, .ref b), (1, .ref (adr G 6 0)), (2, .ref (adr G 7 0)), (3, .ref (adr G 8 0)), (4, .int x4)]) dL_law_1244 (by decide) rfl ?_
  refine V_aload_n hC dL_law_1246 rfl 4 rfl ?_
  refine V_cVr hC [] (c_X9_thrown (l := l) hC.2.2.2.2.2.2.2 rfl) kd_X9_thrown kv_X9_thrown gw_1310 (r_m0_0).o rfl ⟨Nat.le_of_ble_eq_true rfl, Nat.le_of_ble_eq_true rfl⟩ rfl (Nat.le_of_ble_eq_true rfl) dL_law_1247 (law_rm hkk (by omega) (by omega)) rfl ?_
  refine V_iload hC dL_law_1250 1 rfl ?_
  refine V_icmp_eq hC 1257 dL_law_1252 (by decide) (fun c175 => ?_) (fun c175 => ?_)
  · have h := ite_t c175 h
    refine V_iload hC dL_law_1257 1 rfl ?_
    refine V_if_ne hC 1274 dL_law_1259 (by decide) (fun c176 => ?_) (fun c176 => ?_)
    · have h := ite_f c176 h
      refine V_sub [2, 3, 4, 5, 6] rfl ?_
      exact b_L_law_1274 hC hr hlk hX hd0 hlt hsc hbl hbA hgA hkk hk23 h
    · have h := ite_t c176 h
      refine V_aload_n hC dL_law_1262 rfl 5 rfl ?_
      refine V_iconst hC (0 : Int32) dL_law_1263 (by decide) ?_
      refine V_lald hC rfl dL_law_1264 ?_
      refine V_iload hC dL_law_1265 0 rfl ?_
      refine V_i2l hC dL_law_1267 ?_
      refine V_lcmp hC dL_law_1268 ?_
      refine V_if_eq hC 1274 dL_law_1269 (by decide) (fun c177 => ?_) (fun c177 => ?_)
      · have h := ite_t c177 h
        refine V_sub [2, 3, 4, 5, 6] rfl ?_
        exact b_L_law_1274 hC hr hlk hX hd0 hlt hsc hbl hbA hgA hkk hk23 h
      · have h := ite_f c177 h
        refine V_iconst hC (0 : Int32) dL_law_1272 (by decide) ?_
        exact absurd h (by decide)
  · have h := ite_f c175 h
    refine V_iconst hC (0 : Int32) dL_law_1255 (by decide) ?_
    exact absurd h (by decide)
theorem b_L_law_1342 {xs : Nat → Int32} {nS : Nat} {k : Nat} {b : Nat} {d0 : Drawn} {k23 : Int32 → Mem → Option Int32} {x4 : Int32} {M : Mem} (hC : Cx p (s.setDrawn d0) m #[Value.ref b] c code RL 7 G) (hr : meth.sig.returnType = ret) (hlk : meth.locks = false) (hX : XF G (s.setDrawn d0)) (hd0 : s.drawn.sameBut d0 lw_cs) (hlt : l.stackTraces = false) (hsc : va_X b nS xs (s.setDrawn d0) (s.setDrawn d0).heap) (hbl : b < (s.setDrawn d0).heap.size) (hbA : ¬ gA G b) (hgA : ∀ q, gA G q → s.heap.size ≤ q) (hkk : k ≤ 512) (hk23 : ∀ (x4 : Int32) (M : Mem), k23 x4 M = some 1 → V p l e room_1 (s.setDrawn d0) m #[Value.ref b] below meth c 7 G (K0 + (k + 1)) (K1 + 6 * (k + 1)) (lw_Z below #[Value.ref b] s) 23 [(0, .ref b), (1, .ref (adr G 6 0)), (2, .ref (adr G 7 0)), (3, .ref (adr G 8 0)), (4, .int x4)] [] M) (h : B_L_law_1342 xs nS k23 x4 M = some 1) : V p l e room_1 (s.setDrawn d0) m #[Value.ref b] below meth c 7 G (K0 + k + 1) (K1 + 6 * k + 6) (lw_Z below #[Value.ref b] s) 1342 [(0, .ref b), (1, .ref (adr G 6 0)), (2, .ref (adr G 7 0)), (3, .ref (adr G 8 0)), (4, .int x4)] [] M := by
  refine V_goto hC 2323 dL_law_1342 (by decide) ?_
  refine V_widen (k := K0 + (k + 1)) (n := K1 + 6 * (k + 1)) (by omega) (by omega) ?_
  exact b_L_law_2323 hC hr hlk hX hd0 hlt hsc hbl hbA hgA hkk hk23 h
theorem b_L_law_1277 {xs : Nat → Int32} {nS : Nat} {k : Nat} {b : Nat} {d0 : Drawn} {k23 : Int32 → Mem → Option Int32} {x4 : Int32} {M : Mem} (hC : Cx p (s.setDrawn d0) m #[Value.ref b] c code RL 7 G) (hr : meth.sig.returnType = ret) (hlk : meth.locks = false) (hX : XF G (s.setDrawn d0)) (hd0 : s.drawn.sameBut d0 lw_cs) (hlt : l.stackTraces = false) (hsc : va_X b nS xs (s.setDrawn d0) (s.setDrawn d0).heap) (hbl : b < (s.setDrawn d0).heap.size) (hbA : ¬ gA G b) (hgA : ∀ q, gA G q → s.heap.size ≤ q) (hkk : k ≤ 512) (hk23 : ∀ (x4 : Int32) (M : Mem), k23 x4 M = some 1 → V p l e room_1 (s.setDrawn d0) m #[Value.ref b] below meth c 7 G (K0 + (k + 1)) (K1 + 6 * (k + 1)) (lw_Z below #[Value.ref b] s) 23 [(0, .ref b), (1, .ref (adr G 6 0)), (2, .ref (adr G 7 0)), (3, .ref (adr G 8 0)), (4, .int x4)] [] M) (h : B_L_law_1277 xs nS k23 x4 M = some 1) : V p l e room_1 (s.setDrawn d0) m #[Value.ref b] below meth c 7 G (K0 + k) (K1 + 6 * k) (lw_Z below #[Value.ref b] s) 1277 [(0, .ref b), (1, .ref (adr G 6 0)), (2, .ref (adr G 7 0)), (3, .ref (adr G 8 0)), (4, .int x4)] [] M := by
  refine V_aload_n hC dL_law_1277 rfl 1 rfl ?_
  refine V_aload_n hC dL_law_1278 rfl 0 rfl ?_
  refine V_iload hC dL_law_1279 4 rfl ?_
  refine V_iconst hC (1 : Int32) dL_law_1281 (by decide) ?_
  refine V_iadd hC dL_law_1282 ?_
  obtain ⟨c179, h⟩ := ite_some h
  refine V_sld hC hsc hbl hbA c179 dL_law_1283 ?_
  refine V_aload_n hC dL_law_1284 rfl 0 rfl ?_
  refine V_iload hC dL_law_1285 4 rfl ?_
  refine V_iconst hC (2 : Int32) dL_law_1287 (by decide) ?_
  refine V_iadd hC dL_law_1288 ?_
  obtain ⟨c180, h⟩ := ite_some h
  refine V_sld hC hsc hbl hbA c180 dL_law_1289 ?_
  refine V_aload_n hC dL_law_1290 rfl 3 rfl ?_
  obtain ⟨q181, e181, h⟩ := bind_some h
  refine V_cW hC hX [.ref (adr G 6 0), .int (xs (cl (x4 + (1 : Int32)))), .int (xs (cl (x4 + (2 : Int32)))), .ref (adr G 8 0)] (c_L_giveBack (l := l) (rv := q181.1) (Mf := q181.2) hlt hC.2.2.2.2.2.2.2 e181) kx_L_giveBack gw_1058 gw_1057 ⟨Nat.le_of_ble_eq_true rfl, Nat.le_of_ble_eq_true rfl⟩ rfl (Nat.le_of_ble_eq_true rfl) dL_law_1291 (law_rm hkk (by omega) (by omega)) rfl ?_
  refine V_istore hC ([(5, .int q181.1), (0, .ref b), (1, .ref (adr G 6 0)), (2, .ref (adr G 7 0)), (3, .ref (adr G 8 0)), (4, .int x4)]) dL_law_1294 (by decide) rfl ?_
  refine V_aload_n hC dL_law_1296 rfl 3 rfl ?_
  refine V_aload_n hC dL_law_1297 rfl 1 rfl ?_
  refine V_iload hC dL_law_1298 5 rfl ?_
  refine V_iconst hC (1 : Int32) dL_law_1300 (by decide) ?_
  refine V_iadd hC dL_law_1301 ?_
  obtain ⟨c182, h⟩ := ite_some h
  refine V_sld hC hsc hbl hbA c182 dL_law_1302 ?_
  refine V_aload_n hC dL_law_1303 rfl 1 rfl ?_
  refine V_iload hC dL_law_1304 5 rfl ?_
  refine V_iconst hC (2 : Int32) dL_law_1306 (by decide) ?_
  refine V_iadd hC dL_law_1307 ?_
  obtain ⟨c183, h⟩ := ite_some h
  refine V_sld hC hsc hbl hbA c183 dL_law_1308 ?_
  obtain ⟨q184, e184, h⟩ := bind_some h
  refine V_cVr hC [.int (xs (cl (x4 + (1 : Int32)))), .int (xs (cl (x4 + (2 : Int32))))] (c_X9_giveBack (l := l) (rv := q184.1) (Mf := q184.2) hC.2.2.2.2.2.2.2 e184) kd_X9_giveBack kv_X9_giveBack gw_1577 (r_m0_0).o rfl ⟨Nat.le_of_ble_eq_true rfl, Nat.le_of_ble_eq_true rfl⟩ rfl (Nat.le_of_ble_eq_true rfl) dL_law_1309 (law_rm hkk (by omega) (by omega)) rfl ?_
  refine V_istore hC ([(6, .int q184.1), (5, .int q181.1), (0, .ref b), (1, .ref (adr G 6 0)), (2, .ref (adr G 7 0)), (3, .ref (adr G 8 0)), (4, .int x4)]) dL_law_1312 (by decide) rfl ?_
  refine V_aload_n hC dL_law_1314 rfl 4 rfl ?_
  refine V_cVr hC [] (c_X9_thrown (l := l) hC.2.2.2.2.2.2.2 rfl) kd_X9_thrown kv_X9_thrown gw_1310 (r_m0_0).o rfl ⟨Nat.le_of_ble_eq_true rfl, Nat.le_of_ble_eq_true rfl⟩ rfl (Nat.le_of_ble_eq_true rfl) dL_law_1315 (law_rm hkk (by omega) (by omega)) rfl ?_
  refine V_iload hC dL_law_1318 1 rfl ?_
  refine V_icmp_eq hC 1325 dL_law_1320 (by decide) (fun c186 => ?_) (fun c186 => ?_)
  · have h := ite_t c186 h
    refine V_iload hC dL_law_1325 1 rfl ?_
    refine V_if_ne hC 1342 dL_law_1327 (by decide) (fun c187 => ?_) (fun c187 => ?_)
    · have h := ite_f c187 h
      refine V_sub [2, 3, 4, 5, 6] rfl ?_
      exact b_L_law_1342 hC hr hlk hX hd0 hlt hsc hbl hbA hgA hkk hk23 h
    · have h := ite_t c187 h
      refine V_aload_n hC dL_law_1330 rfl 5 rfl ?_
      refine V_iconst hC (0 : Int32) dL_law_1331 (by decide) ?_
      refine V_lald hC rfl dL_law_1332 ?_
      refine V_iload hC dL_law_1333 0 rfl ?_
      refine V_i2l hC dL_law_1335 ?_
      refine V_lcmp hC dL_law_1336 ?_
      refine V_if_eq hC 1342 dL_law_1337 (by decide) (fun c188 => ?_) (fun c188 => ?_)
      · have h := ite_t c188 h
        refine V_sub [2, 3, 4, 5, 6] rfl ?_
        exact b_L_law_1342 hC hr hlk hX hd0 hlt hsc hbl hbA hgA hkk hk23 h
      · have h := ite_f c188 h
        refine V_iconst hC (0 : Int32) dL_law_1340 (by decide) ?_
        exact absurd h (by decide)
  · have h := ite_f c186 h
    refine V_iconst hC (0 : Int32) dL_law_1323 (by decide) ?_
    exact absurd h (by decide)
theorem b_L_law_1410 {xs : Nat → Int32} {nS : Nat} {k : Nat} {b : Nat} {d0 : Drawn} {k23 : Int32 → Mem → Option Int32} {x4 : Int32} {M : Mem} (hC : Cx p (s.setDrawn d0) m #[Value.ref b] c code RL 7 G) (hr : meth.sig.returnType = ret) (hlk : meth.locks = false) (hX : XF G (s.setDrawn d0)) (hd0 : s.drawn.sameBut d0 lw_cs) (hlt : l.stackTraces = false) (hsc : va_X b nS xs (s.setDrawn d0) (s.setDrawn d0).heap) (hbl : b < (s.setDrawn d0).heap.size) (hbA : ¬ gA G b) (hgA : ∀ q, gA G q → s.heap.size ≤ q) (hkk : k ≤ 512) (hk23 : ∀ (x4 : Int32) (M : Mem), k23 x4 M = some 1 → V p l e room_1 (s.setDrawn d0) m #[Value.ref b] below meth c 7 G (K0 + (k + 1)) (K1 + 6 * (k + 1)) (lw_Z below #[Value.ref b] s) 23 [(0, .ref b), (1, .ref (adr G 6 0)), (2, .ref (adr G 7 0)), (3, .ref (adr G 8 0)), (4, .int x4)] [] M) (h : B_L_law_1410 xs nS k23 x4 M = some 1) : V p l e room_1 (s.setDrawn d0) m #[Value.ref b] below meth c 7 G (K0 + k + 1) (K1 + 6 * k + 6) (lw_Z below #[Value.ref b] s) 1410 [(0, .ref b), (1, .ref (adr G 6 0)), (2, .ref (adr G 7 0)), (3, .ref (adr G 8 0)), (4, .int x4)] [] M := by
  refine V_goto hC 2323 dL_law_1410 (by decide) ?_
  refine V_widen (k := K0 + (k + 1)) (n := K1 + 6 * (k + 1)) (by omega) (by omega) ?_
  exact b_L_law_2323 hC hr hlk hX hd0 hlt hsc hbl hbA hgA hkk hk23 h
theorem b_L_law_1345 {xs : Nat → Int32} {nS : Nat} {k : Nat} {b : Nat} {d0 : Drawn} {k23 : Int32 → Mem → Option Int32} {x4 : Int32} {M : Mem} (hC : Cx p (s.setDrawn d0) m #[Value.ref b] c code RL 7 G) (hr : meth.sig.returnType = ret) (hlk : meth.locks = false) (hX : XF G (s.setDrawn d0)) (hd0 : s.drawn.sameBut d0 lw_cs) (hlt : l.stackTraces = false) (hsc : va_X b nS xs (s.setDrawn d0) (s.setDrawn d0).heap) (hbl : b < (s.setDrawn d0).heap.size) (hbA : ¬ gA G b) (hgA : ∀ q, gA G q → s.heap.size ≤ q) (hkk : k ≤ 512) (hk23 : ∀ (x4 : Int32) (M : Mem), k23 x4 M = some 1 → V p l e room_1 (s.setDrawn d0) m #[Value.ref b] below meth c 7 G (K0 + (k + 1)) (K1 + 6 * (k + 1)) (lw_Z below #[Value.ref b] s) 23 [(0, .ref b), (1, .ref (adr G 6 0)), (2, .ref (adr G 7 0)), (3, .ref (adr G 8 0)), (4, .int x4)] [] M) (h : B_L_law_1345 xs nS k23 x4 M = some 1) : V p l e room_1 (s.setDrawn d0) m #[Value.ref b] below meth c 7 G (K0 + k) (K1 + 6 * k) (lw_Z below #[Value.ref b] s) 1345 [(0, .ref b), (1, .ref (adr G 6 0)), (2, .ref (adr G 7 0)), (3, .ref (adr G 8 0)), (4, .int x4)] [] M := by
  refine V_aload_n hC dL_law_1345 rfl 1 rfl ?_
  refine V_aload_n hC dL_law_1346 rfl 0 rfl ?_
  refine V_iload hC dL_law_1347 4 rfl ?_
  refine V_iconst hC (1 : Int32) dL_law_1349 (by decide) ?_
  refine V_iadd hC dL_law_1350 ?_
  obtain ⟨c190, h⟩ := ite_some h
  refine V_sld hC hsc hbl hbA c190 dL_law_1351 ?_
  refine V_aload_n hC dL_law_1352 rfl 0 rfl ?_
  refine V_iload hC dL_law_1353 4 rfl ?_
  refine V_iconst hC (2 : Int32) dL_law_1355 (by decide) ?_
  refine V_iadd hC dL_law_1356 ?_
  obtain ⟨c191, h⟩ := ite_some h
  refine V_sld hC hsc hbl hbA c191 dL_law_1357 ?_
  refine V_aload_n hC dL_law_1358 rfl 3 rfl ?_
  obtain ⟨q192, e192, h⟩ := bind_some h
  refine V_cW hC hX [.ref (adr G 6 0), .int (xs (cl (x4 + (1 : Int32)))), .int (xs (cl (x4 + (2 : Int32)))), .ref (adr G 8 0)] (c_L_checkOut (l := l) (rv := q192.1) (Mf := q192.2) hlt hC.2.2.2.2.2.2.2 e192) kx_L_checkOut gw_1065 gw_1064 ⟨Nat.le_of_ble_eq_true rfl, Nat.le_of_ble_eq_true rfl⟩ rfl (Nat.le_of_ble_eq_true rfl) dL_law_1359 (law_rm hkk (by omega) (by omega)) rfl ?_
  refine V_istore hC ([(5, .int q192.1), (0, .ref b), (1, .ref (adr G 6 0)), (2, .ref (adr G 7 0)), (3, .ref (adr G 8 0)), (4, .int x4)]) dL_law_1362 (by decide) rfl ?_
  refine V_aload_n hC dL_law_1364 rfl 3 rfl ?_
  refine V_aload_n hC dL_law_1365 rfl 1 rfl ?_
  refine V_iload hC dL_law_1366 5 rfl ?_
  refine V_iconst hC (1 : Int32) dL_law_1368 (by decide) ?_
  refine V_iadd hC dL_law_1369 ?_
  obtain ⟨c193, h⟩ := ite_some h
  refine V_sld hC hsc hbl hbA c193 dL_law_1370 ?_
  refine V_aload_n hC dL_law_1371 rfl 1 rfl ?_
  refine V_iload hC dL_law_1372 5 rfl ?_
  refine V_iconst hC (2 : Int32) dL_law_1374 (by decide) ?_
  refine V_iadd hC dL_law_1375 ?_
  obtain ⟨c194, h⟩ := ite_some h
  refine V_sld hC hsc hbl hbA c194 dL_law_1376 ?_
  obtain ⟨q195, e195, h⟩ := bind_some h
  refine V_cVr hC [.int (xs (cl (x4 + (1 : Int32)))), .int (xs (cl (x4 + (2 : Int32))))] (c_X9_checkOut (l := l) (rv := q195.1) (Mf := q195.2) hC.2.2.2.2.2.2.2 e195) kd_X9_checkOut kv_X9_checkOut gw_1593 (r_m0_0).o rfl ⟨Nat.le_of_ble_eq_true rfl, Nat.le_of_ble_eq_true rfl⟩ rfl (Nat.le_of_ble_eq_true rfl) dL_law_1377 (law_rm hkk (by omega) (by omega)) rfl ?_
  refine V_istore hC ([(6, .int q195.1), (5, .int q192.1), (0, .ref b), (1, .ref (adr G 6 0)), (2, .ref (adr G 7 0)), (3, .ref (adr G 8 0)), (4, .int x4)]) dL_law_1380 (by decide) rfl ?_
  refine V_aload_n hC dL_law_1382 rfl 4 rfl ?_
  refine V_cVr hC [] (c_X9_thrown (l := l) hC.2.2.2.2.2.2.2 rfl) kd_X9_thrown kv_X9_thrown gw_1310 (r_m0_0).o rfl ⟨Nat.le_of_ble_eq_true rfl, Nat.le_of_ble_eq_true rfl⟩ rfl (Nat.le_of_ble_eq_true rfl) dL_law_1383 (law_rm hkk (by omega) (by omega)) rfl ?_
  refine V_iload hC dL_law_1386 1 rfl ?_
  refine V_icmp_eq hC 1393 dL_law_1388 (by decide) (fun c197 => ?_) (fun c197 => ?_)
  · have h := ite_t c197 h
    refine V_iload hC dL_law_1393 1 rfl ?_
    refine V_if_ne hC 1410 dL_law_1395 (by decide) (fun c198 => ?_) (fun c198 => ?_)
    · have h := ite_f c198 h
      refine V_sub [2, 3, 4, 5, 6] rfl ?_
      exact b_L_law_1410 hC hr hlk hX hd0 hlt hsc hbl hbA hgA hkk hk23 h
    · have h := ite_t c198 h
      refine V_aload_n hC dL_law_1398 rfl 5 rfl ?_
      refine V_iconst hC (0 : Int32) dL_law_1399 (by decide) ?_
      refine V_lald hC rfl dL_law_1400 ?_
      refine V_iload hC dL_law_1401 0 rfl ?_
      refine V_i2l hC dL_law_1403 ?_
      refine V_lcmp hC dL_law_1404 ?_
      refine V_if_eq hC 1410 dL_law_1405 (by decide) (fun c199 => ?_) (fun c199 => ?_)
      · have h := ite_t c199 h
        refine V_sub [2, 3, 4, 5, 6] rfl ?_
        exact b_L_law_1410 hC hr hlk hX hd0 hlt hsc hbl hbA hgA hkk hk23 h
      · have h := ite_f c199 h
        refine V_iconst hC (0 : Int32) dL_law_1408 (by decide) ?_
        exact absurd h (by decide)
  · have h := ite_f c197 h
    refine V_iconst hC (0 : Int32) dL_law_1391 (by decide) ?_
    exact absurd h (by decide)
theorem b_L_law_1466 {xs : Nat → Int32} {nS : Nat} {k : Nat} {b : Nat} {d0 : Drawn} {k23 : Int32 → Mem → Option Int32} {x4 : Int32} {M : Mem} (hC : Cx p (s.setDrawn d0) m #[Value.ref b] c code RL 7 G) (hr : meth.sig.returnType = ret) (hlk : meth.locks = false) (hX : XF G (s.setDrawn d0)) (hd0 : s.drawn.sameBut d0 lw_cs) (hlt : l.stackTraces = false) (hsc : va_X b nS xs (s.setDrawn d0) (s.setDrawn d0).heap) (hbl : b < (s.setDrawn d0).heap.size) (hbA : ¬ gA G b) (hgA : ∀ q, gA G q → s.heap.size ≤ q) (hkk : k ≤ 512) (hk23 : ∀ (x4 : Int32) (M : Mem), k23 x4 M = some 1 → V p l e room_1 (s.setDrawn d0) m #[Value.ref b] below meth c 7 G (K0 + (k + 1)) (K1 + 6 * (k + 1)) (lw_Z below #[Value.ref b] s) 23 [(0, .ref b), (1, .ref (adr G 6 0)), (2, .ref (adr G 7 0)), (3, .ref (adr G 8 0)), (4, .int x4)] [] M) (h : B_L_law_1466 xs nS k23 x4 M = some 1) : V p l e room_1 (s.setDrawn d0) m #[Value.ref b] below meth c 7 G (K0 + k + 1) (K1 + 6 * k + 6) (lw_Z below #[Value.ref b] s) 1466 [(0, .ref b), (1, .ref (adr G 6 0)), (2, .ref (adr G 7 0)), (3, .ref (adr G 8 0)), (4, .int x4)] [] M := by
  refine V_goto hC 2323 dL_law_1466 (by decide) ?_
  refine V_widen (k := K0 + (k + 1)) (n := K1 + 6 * (k + 1)) (by omega) (by omega) ?_
  exact b_L_law_2323 hC hr hlk hX hd0 hlt hsc hbl hbA hgA hkk hk23 h
theorem b_L_law_1413 {xs : Nat → Int32} {nS : Nat} {k : Nat} {b : Nat} {d0 : Drawn} {k23 : Int32 → Mem → Option Int32} {x4 : Int32} {M : Mem} (hC : Cx p (s.setDrawn d0) m #[Value.ref b] c code RL 7 G) (hr : meth.sig.returnType = ret) (hlk : meth.locks = false) (hX : XF G (s.setDrawn d0)) (hd0 : s.drawn.sameBut d0 lw_cs) (hlt : l.stackTraces = false) (hsc : va_X b nS xs (s.setDrawn d0) (s.setDrawn d0).heap) (hbl : b < (s.setDrawn d0).heap.size) (hbA : ¬ gA G b) (hgA : ∀ q, gA G q → s.heap.size ≤ q) (hkk : k ≤ 512) (hk23 : ∀ (x4 : Int32) (M : Mem), k23 x4 M = some 1 → V p l e room_1 (s.setDrawn d0) m #[Value.ref b] below meth c 7 G (K0 + (k + 1)) (K1 + 6 * (k + 1)) (lw_Z below #[Value.ref b] s) 23 [(0, .ref b), (1, .ref (adr G 6 0)), (2, .ref (adr G 7 0)), (3, .ref (adr G 8 0)), (4, .int x4)] [] M) (h : B_L_law_1413 xs nS k23 x4 M = some 1) : V p l e room_1 (s.setDrawn d0) m #[Value.ref b] below meth c 7 G (K0 + k) (K1 + 6 * k) (lw_Z below #[Value.ref b] s) 1413 [(0, .ref b), (1, .ref (adr G 6 0)), (2, .ref (adr G 7 0)), (3, .ref (adr G 8 0)), (4, .int x4)] [] M := by
  refine V_aload_n hC dL_law_1413 rfl 1 rfl ?_
  refine V_aload_n hC dL_law_1414 rfl 0 rfl ?_
  refine V_iload hC dL_law_1415 4 rfl ?_
  refine V_iconst hC (1 : Int32) dL_law_1417 (by decide) ?_
  refine V_iadd hC dL_law_1418 ?_
  obtain ⟨c201, h⟩ := ite_some h
  refine V_sld hC hsc hbl hbA c201 dL_law_1419 ?_
  refine V_aload_n hC dL_law_1420 rfl 3 rfl ?_
  obtain ⟨q202, e202, h⟩ := bind_some h
  refine V_cW hC hX [.ref (adr G 6 0), .int (xs (cl (x4 + (1 : Int32)))), .ref (adr G 8 0)] (c_L_holders (l := l) (rv := q202.1) (Mf := q202.2) hlt hC.2.2.2.2.2.2.2 e202) kx_L_holders gw_1075 gw_1074 ⟨Nat.le_of_ble_eq_true rfl, Nat.le_of_ble_eq_true rfl⟩ rfl (Nat.le_of_ble_eq_true rfl) dL_law_1421 (law_rm hkk (by omega) (by omega)) rfl ?_
  refine V_istore hC ([(5, .int q202.1), (0, .ref b), (1, .ref (adr G 6 0)), (2, .ref (adr G 7 0)), (3, .ref (adr G 8 0)), (4, .int x4)]) dL_law_1424 (by decide) rfl ?_
  refine V_aload_n hC dL_law_1426 rfl 3 rfl ?_
  refine V_aload_n hC dL_law_1427 rfl 1 rfl ?_
  refine V_iload hC dL_law_1428 5 rfl ?_
  refine V_iconst hC (1 : Int32) dL_law_1430 (by decide) ?_
  refine V_iadd hC dL_law_1431 ?_
  obtain ⟨c203, h⟩ := ite_some h
  refine V_sld hC hsc hbl hbA c203 dL_law_1432 ?_
  obtain ⟨q204, e204, h⟩ := bind_some h
  refine V_cVr hC [.int (xs (cl (x4 + (1 : Int32))))] (c_X9_holders (l := l) (rv := q204.1) (Mf := q204.2) hC.2.2.2.2.2.2.2 e204) kd_X9_holders kv_X9_holders gw_1601 (r_m0_0).o rfl ⟨Nat.le_of_ble_eq_true rfl, Nat.le_of_ble_eq_true rfl⟩ rfl (Nat.le_of_ble_eq_true rfl) dL_law_1433 (law_rm hkk (by omega) (by omega)) rfl ?_
  refine V_istore hC ([(6, .int q204.1), (5, .int q202.1), (0, .ref b), (1, .ref (adr G 6 0)), (2, .ref (adr G 7 0)), (3, .ref (adr G 8 0)), (4, .int x4)]) dL_law_1436 (by decide) rfl ?_
  refine V_aload_n hC dL_law_1438 rfl 4 rfl ?_
  refine V_cVr hC [] (c_X9_thrown (l := l) hC.2.2.2.2.2.2.2 rfl) kd_X9_thrown kv_X9_thrown gw_1310 (r_m0_0).o rfl ⟨Nat.le_of_ble_eq_true rfl, Nat.le_of_ble_eq_true rfl⟩ rfl (Nat.le_of_ble_eq_true rfl) dL_law_1439 (law_rm hkk (by omega) (by omega)) rfl ?_
  refine V_iload hC dL_law_1442 1 rfl ?_
  refine V_icmp_eq hC 1449 dL_law_1444 (by decide) (fun c206 => ?_) (fun c206 => ?_)
  · have h := ite_t c206 h
    refine V_iload hC dL_law_1449 1 rfl ?_
    refine V_if_ne hC 1466 dL_law_1451 (by decide) (fun c207 => ?_) (fun c207 => ?_)
    · have h := ite_f c207 h
      refine V_sub [2, 3, 4, 5, 6] rfl ?_
      exact b_L_law_1466 hC hr hlk hX hd0 hlt hsc hbl hbA hgA hkk hk23 h
    · have h := ite_t c207 h
      refine V_aload_n hC dL_law_1454 rfl 5 rfl ?_
      refine V_iconst hC (0 : Int32) dL_law_1455 (by decide) ?_
      refine V_lald hC rfl dL_law_1456 ?_
      refine V_iload hC dL_law_1457 0 rfl ?_
      refine V_i2l hC dL_law_1459 ?_
      refine V_lcmp hC dL_law_1460 ?_
      refine V_if_eq hC 1466 dL_law_1461 (by decide) (fun c208 => ?_) (fun c208 => ?_)
      · have h := ite_t c208 h
        refine V_sub [2, 3, 4, 5, 6] rfl ?_
        exact b_L_law_1466 hC hr hlk hX hd0 hlt hsc hbl hbA hgA hkk hk23 h
      · have h := ite_f c208 h
        refine V_iconst hC (0 : Int32) dL_law_1464 (by decide) ?_
        exact absurd h (by decide)
  · have h := ite_f c206 h
    refine V_iconst hC (0 : Int32) dL_law_1447 (by decide) ?_
    exact absurd h (by decide)
theorem b_L_law_1522 {xs : Nat → Int32} {nS : Nat} {k : Nat} {b : Nat} {d0 : Drawn} {k23 : Int32 → Mem → Option Int32} {x4 : Int32} {M : Mem} (hC : Cx p (s.setDrawn d0) m #[Value.ref b] c code RL 7 G) (hr : meth.sig.returnType = ret) (hlk : meth.locks = false) (hX : XF G (s.setDrawn d0)) (hd0 : s.drawn.sameBut d0 lw_cs) (hlt : l.stackTraces = false) (hsc : va_X b nS xs (s.setDrawn d0) (s.setDrawn d0).heap) (hbl : b < (s.setDrawn d0).heap.size) (hbA : ¬ gA G b) (hgA : ∀ q, gA G q → s.heap.size ≤ q) (hkk : k ≤ 512) (hk23 : ∀ (x4 : Int32) (M : Mem), k23 x4 M = some 1 → V p l e room_1 (s.setDrawn d0) m #[Value.ref b] below meth c 7 G (K0 + (k + 1)) (K1 + 6 * (k + 1)) (lw_Z below #[Value.ref b] s) 23 [(0, .ref b), (1, .ref (adr G 6 0)), (2, .ref (adr G 7 0)), (3, .ref (adr G 8 0)), (4, .int x4)] [] M) (h : B_L_law_1522 xs nS k23 x4 M = some 1) : V p l e room_1 (s.setDrawn d0) m #[Value.ref b] below meth c 7 G (K0 + k + 1) (K1 + 6 * k + 6) (lw_Z below #[Value.ref b] s) 1522 [(0, .ref b), (1, .ref (adr G 6 0)), (2, .ref (adr G 7 0)), (3, .ref (adr G 8 0)), (4, .int x4)] [] M := by
  refine V_goto hC 2323 dL_law_1522 (by decide) ?_
  refine V_widen (k := K0 + (k + 1)) (n := K1 + 6 * (k + 1)) (by omega) (by omega) ?_
  exact b_L_law_2323 hC hr hlk hX hd0 hlt hsc hbl hbA hgA hkk hk23 h
theorem b_L_law_1469 {xs : Nat → Int32} {nS : Nat} {k : Nat} {b : Nat} {d0 : Drawn} {k23 : Int32 → Mem → Option Int32} {x4 : Int32} {M : Mem} (hC : Cx p (s.setDrawn d0) m #[Value.ref b] c code RL 7 G) (hr : meth.sig.returnType = ret) (hlk : meth.locks = false) (hX : XF G (s.setDrawn d0)) (hd0 : s.drawn.sameBut d0 lw_cs) (hlt : l.stackTraces = false) (hsc : va_X b nS xs (s.setDrawn d0) (s.setDrawn d0).heap) (hbl : b < (s.setDrawn d0).heap.size) (hbA : ¬ gA G b) (hgA : ∀ q, gA G q → s.heap.size ≤ q) (hkk : k ≤ 512) (hk23 : ∀ (x4 : Int32) (M : Mem), k23 x4 M = some 1 → V p l e room_1 (s.setDrawn d0) m #[Value.ref b] below meth c 7 G (K0 + (k + 1)) (K1 + 6 * (k + 1)) (lw_Z below #[Value.ref b] s) 23 [(0, .ref b), (1, .ref (adr G 6 0)), (2, .ref (adr G 7 0)), (3, .ref (adr G 8 0)), (4, .int x4)] [] M) (h : B_L_law_1469 xs nS k23 x4 M = some 1) : V p l e room_1 (s.setDrawn d0) m #[Value.ref b] below meth c 7 G (K0 + k) (K1 + 6 * k) (lw_Z below #[Value.ref b] s) 1469 [(0, .ref b), (1, .ref (adr G 6 0)), (2, .ref (adr G 7 0)), (3, .ref (adr G 8 0)), (4, .int x4)] [] M := by
  refine V_aload_n hC dL_law_1469 rfl 1 rfl ?_
  refine V_aload_n hC dL_law_1470 rfl 0 rfl ?_
  refine V_iload hC dL_law_1471 4 rfl ?_
  refine V_iconst hC (1 : Int32) dL_law_1473 (by decide) ?_
  refine V_iadd hC dL_law_1474 ?_
  obtain ⟨c210, h⟩ := ite_some h
  refine V_sld hC hsc hbl hbA c210 dL_law_1475 ?_
  refine V_aload_n hC dL_law_1476 rfl 3 rfl ?_
  obtain ⟨q211, e211, h⟩ := bind_some h
  refine V_cW hC hX [.ref (adr G 6 0), .int (xs (cl (x4 + (1 : Int32)))), .ref (adr G 8 0)] (c_L_ifBroken (l := l) (rv := q211.1) (Mf := q211.2) hlt hC.2.2.2.2.2.2.2 e211) kx_L_ifBroken gw_1086 gw_1085 ⟨Nat.le_of_ble_eq_true rfl, Nat.le_of_ble_eq_true rfl⟩ rfl (Nat.le_of_ble_eq_true rfl) dL_law_1477 (law_rm hkk (by omega) (by omega)) rfl ?_
  refine V_istore hC ([(5, .int q211.1), (0, .ref b), (1, .ref (adr G 6 0)), (2, .ref (adr G 7 0)), (3, .ref (adr G 8 0)), (4, .int x4)]) dL_law_1480 (by decide) rfl ?_
  refine V_aload_n hC dL_law_1482 rfl 3 rfl ?_
  refine V_aload_n hC dL_law_1483 rfl 1 rfl ?_
  refine V_iload hC dL_law_1484 5 rfl ?_
  refine V_iconst hC (1 : Int32) dL_law_1486 (by decide) ?_
  refine V_iadd hC dL_law_1487 ?_
  obtain ⟨c212, h⟩ := ite_some h
  refine V_sld hC hsc hbl hbA c212 dL_law_1488 ?_
  obtain ⟨q213, e213, h⟩ := bind_some h
  refine V_cVr hC [.int (xs (cl (x4 + (1 : Int32))))] (c_X9_ifBroken (l := l) (rv := q213.1) (Mf := q213.2) hC.2.2.2.2.2.2.2 e213) kd_X9_ifBroken kv_X9_ifBroken gw_1605 (r_m0_0).o rfl ⟨Nat.le_of_ble_eq_true rfl, Nat.le_of_ble_eq_true rfl⟩ rfl (Nat.le_of_ble_eq_true rfl) dL_law_1489 (law_rm hkk (by omega) (by omega)) rfl ?_
  refine V_istore hC ([(6, .int q213.1), (5, .int q211.1), (0, .ref b), (1, .ref (adr G 6 0)), (2, .ref (adr G 7 0)), (3, .ref (adr G 8 0)), (4, .int x4)]) dL_law_1492 (by decide) rfl ?_
  refine V_aload_n hC dL_law_1494 rfl 4 rfl ?_
  refine V_cVr hC [] (c_X9_thrown (l := l) hC.2.2.2.2.2.2.2 rfl) kd_X9_thrown kv_X9_thrown gw_1310 (r_m0_0).o rfl ⟨Nat.le_of_ble_eq_true rfl, Nat.le_of_ble_eq_true rfl⟩ rfl (Nat.le_of_ble_eq_true rfl) dL_law_1495 (law_rm hkk (by omega) (by omega)) rfl ?_
  refine V_iload hC dL_law_1498 1 rfl ?_
  refine V_icmp_eq hC 1505 dL_law_1500 (by decide) (fun c215 => ?_) (fun c215 => ?_)
  · have h := ite_t c215 h
    refine V_iload hC dL_law_1505 1 rfl ?_
    refine V_if_ne hC 1522 dL_law_1507 (by decide) (fun c216 => ?_) (fun c216 => ?_)
    · have h := ite_f c216 h
      refine V_sub [2, 3, 4, 5, 6] rfl ?_
      exact b_L_law_1522 hC hr hlk hX hd0 hlt hsc hbl hbA hgA hkk hk23 h
    · have h := ite_t c216 h
      refine V_aload_n hC dL_law_1510 rfl 5 rfl ?_
      refine V_iconst hC (0 : Int32) dL_law_1511 (by decide) ?_
      refine V_lald hC rfl dL_law_1512 ?_
      refine V_iload hC dL_law_1513 0 rfl ?_
      refine V_i2l hC dL_law_1515 ?_
      refine V_lcmp hC dL_law_1516 ?_
      refine V_if_eq hC 1522 dL_law_1517 (by decide) (fun c217 => ?_) (fun c217 => ?_)
      · have h := ite_t c217 h
        refine V_sub [2, 3, 4, 5, 6] rfl ?_
        exact b_L_law_1522 hC hr hlk hX hd0 hlt hsc hbl hbA hgA hkk hk23 h
      · have h := ite_f c217 h
        refine V_iconst hC (0 : Int32) dL_law_1520 (by decide) ?_
        exact absurd h (by decide)
  · have h := ite_f c215 h
    refine V_iconst hC (0 : Int32) dL_law_1503 (by decide) ?_
    exact absurd h (by decide)
theorem b_L_law_1578 {xs : Nat → Int32} {nS : Nat} {k : Nat} {b : Nat} {d0 : Drawn} {k23 : Int32 → Mem → Option Int32} {x4 : Int32} {M : Mem} (hC : Cx p (s.setDrawn d0) m #[Value.ref b] c code RL 7 G) (hr : meth.sig.returnType = ret) (hlk : meth.locks = false) (hX : XF G (s.setDrawn d0)) (hd0 : s.drawn.sameBut d0 lw_cs) (hlt : l.stackTraces = false) (hsc : va_X b nS xs (s.setDrawn d0) (s.setDrawn d0).heap) (hbl : b < (s.setDrawn d0).heap.size) (hbA : ¬ gA G b) (hgA : ∀ q, gA G q → s.heap.size ≤ q) (hkk : k ≤ 512) (hk23 : ∀ (x4 : Int32) (M : Mem), k23 x4 M = some 1 → V p l e room_1 (s.setDrawn d0) m #[Value.ref b] below meth c 7 G (K0 + (k + 1)) (K1 + 6 * (k + 1)) (lw_Z below #[Value.ref b] s) 23 [(0, .ref b), (1, .ref (adr G 6 0)), (2, .ref (adr G 7 0)), (3, .ref (adr G 8 0)), (4, .int x4)] [] M) (h : B_L_law_1578 xs nS k23 x4 M = some 1) : V p l e room_1 (s.setDrawn d0) m #[Value.ref b] below meth c 7 G (K0 + k + 1) (K1 + 6 * k + 6) (lw_Z below #[Value.ref b] s) 1578 [(0, .ref b), (1, .ref (adr G 6 0)), (2, .ref (adr G 7 0)), (3, .ref (adr G 8 0)), (4, .int x4)] [] M := by
  refine V_goto hC 2323 dL_law_1578 (by decide) ?_
  refine V_widen (k := K0 + (k + 1)) (n := K1 + 6 * (k + 1)) (by omega) (by omega) ?_
  exact b_L_law_2323 hC hr hlk hX hd0 hlt hsc hbl hbA hgA hkk hk23 h
theorem b_L_law_1525 {xs : Nat → Int32} {nS : Nat} {k : Nat} {b : Nat} {d0 : Drawn} {k23 : Int32 → Mem → Option Int32} {x4 : Int32} {M : Mem} (hC : Cx p (s.setDrawn d0) m #[Value.ref b] c code RL 7 G) (hr : meth.sig.returnType = ret) (hlk : meth.locks = false) (hX : XF G (s.setDrawn d0)) (hd0 : s.drawn.sameBut d0 lw_cs) (hlt : l.stackTraces = false) (hsc : va_X b nS xs (s.setDrawn d0) (s.setDrawn d0).heap) (hbl : b < (s.setDrawn d0).heap.size) (hbA : ¬ gA G b) (hgA : ∀ q, gA G q → s.heap.size ≤ q) (hkk : k ≤ 512) (hk23 : ∀ (x4 : Int32) (M : Mem), k23 x4 M = some 1 → V p l e room_1 (s.setDrawn d0) m #[Value.ref b] below meth c 7 G (K0 + (k + 1)) (K1 + 6 * (k + 1)) (lw_Z below #[Value.ref b] s) 23 [(0, .ref b), (1, .ref (adr G 6 0)), (2, .ref (adr G 7 0)), (3, .ref (adr G 8 0)), (4, .int x4)] [] M) (h : B_L_law_1525 xs nS k23 x4 M = some 1) : V p l e room_1 (s.setDrawn d0) m #[Value.ref b] below meth c 7 G (K0 + k) (K1 + 6 * k) (lw_Z below #[Value.ref b] s) 1525 [(0, .ref b), (1, .ref (adr G 6 0)), (2, .ref (adr G 7 0)), (3, .ref (adr G 8 0)), (4, .int x4)] [] M := by
  refine V_aload_n hC dL_law_1525 rfl 1 rfl ?_
  refine V_aload_n hC dL_law_1526 rfl 0 rfl ?_
  refine V_iload hC dL_law_1527 4 rfl ?_
  refine V_iconst hC (1 : Int32) dL_law_1529 (by decide) ?_
  refine V_iadd hC dL_law_1530 ?_
  obtain ⟨c219, h⟩ := ite_some h
  refine V_sld hC hsc hbl hbA c219 dL_law_1531 ?_
  refine V_aload_n hC dL_law_1532 rfl 3 rfl ?_
  obtain ⟨q220, e220, h⟩ := bind_some h
  refine V_cW hC hX [.ref (adr G 6 0), .int (xs (cl (x4 + (1 : Int32)))), .ref (adr G 8 0)] (c_L_grantedAt (l := l) (rv := q220.1) (Mf := q220.2) hlt hC.2.2.2.2.2.2.2 e220) kx_L_grantedAt gw_1096 gw_1095 ⟨Nat.le_of_ble_eq_true rfl, Nat.le_of_ble_eq_true rfl⟩ rfl (Nat.le_of_ble_eq_true rfl) dL_law_1533 (law_rm hkk (by omega) (by omega)) rfl ?_
  refine V_istore hC ([(5, .int q220.1), (0, .ref b), (1, .ref (adr G 6 0)), (2, .ref (adr G 7 0)), (3, .ref (adr G 8 0)), (4, .int x4)]) dL_law_1536 (by decide) rfl ?_
  refine V_aload_n hC dL_law_1538 rfl 3 rfl ?_
  refine V_aload_n hC dL_law_1539 rfl 1 rfl ?_
  refine V_iload hC dL_law_1540 5 rfl ?_
  refine V_iconst hC (1 : Int32) dL_law_1542 (by decide) ?_
  refine V_iadd hC dL_law_1543 ?_
  obtain ⟨c221, h⟩ := ite_some h
  refine V_sld hC hsc hbl hbA c221 dL_law_1544 ?_
  obtain ⟨q222, e222, h⟩ := bind_some h
  refine V_cVr hC [.int (xs (cl (x4 + (1 : Int32))))] (c_X9_grantedAt (l := l) (rv := q222.1) (Mf := q222.2) hC.2.2.2.2.2.2.2 e222) kd_X9_grantedAt kv_X9_grantedAt gw_1617 (r_m0_0).o rfl ⟨Nat.le_of_ble_eq_true rfl, Nat.le_of_ble_eq_true rfl⟩ rfl (Nat.le_of_ble_eq_true rfl) dL_law_1545 (law_rm hkk (by omega) (by omega)) rfl ?_
  refine V_istore hC ([(6, .int q222.1), (5, .int q220.1), (0, .ref b), (1, .ref (adr G 6 0)), (2, .ref (adr G 7 0)), (3, .ref (adr G 8 0)), (4, .int x4)]) dL_law_1548 (by decide) rfl ?_
  refine V_aload_n hC dL_law_1550 rfl 4 rfl ?_
  refine V_cVr hC [] (c_X9_thrown (l := l) hC.2.2.2.2.2.2.2 rfl) kd_X9_thrown kv_X9_thrown gw_1310 (r_m0_0).o rfl ⟨Nat.le_of_ble_eq_true rfl, Nat.le_of_ble_eq_true rfl⟩ rfl (Nat.le_of_ble_eq_true rfl) dL_law_1551 (law_rm hkk (by omega) (by omega)) rfl ?_
  refine V_iload hC dL_law_1554 1 rfl ?_
  refine V_icmp_eq hC 1561 dL_law_1556 (by decide) (fun c224 => ?_) (fun c224 => ?_)
  · have h := ite_t c224 h
    refine V_iload hC dL_law_1561 1 rfl ?_
    refine V_if_ne hC 1578 dL_law_1563 (by decide) (fun c225 => ?_) (fun c225 => ?_)
    · have h := ite_f c225 h
      refine V_sub [2, 3, 4, 5, 6] rfl ?_
      exact b_L_law_1578 hC hr hlk hX hd0 hlt hsc hbl hbA hgA hkk hk23 h
    · have h := ite_t c225 h
      refine V_aload_n hC dL_law_1566 rfl 5 rfl ?_
      refine V_iconst hC (0 : Int32) dL_law_1567 (by decide) ?_
      refine V_lald hC rfl dL_law_1568 ?_
      refine V_iload hC dL_law_1569 0 rfl ?_
      refine V_i2l hC dL_law_1571 ?_
      refine V_lcmp hC dL_law_1572 ?_
      refine V_if_eq hC 1578 dL_law_1573 (by decide) (fun c226 => ?_) (fun c226 => ?_)
      · have h := ite_t c226 h
        refine V_sub [2, 3, 4, 5, 6] rfl ?_
        exact b_L_law_1578 hC hr hlk hX hd0 hlt hsc hbl hbA hgA hkk hk23 h
      · have h := ite_f c226 h
        refine V_iconst hC (0 : Int32) dL_law_1576 (by decide) ?_
        exact absurd h (by decide)
  · have h := ite_f c224 h
    refine V_iconst hC (0 : Int32) dL_law_1559 (by decide) ?_
    exact absurd h (by decide)
theorem b_L_law_1634 {xs : Nat → Int32} {nS : Nat} {k : Nat} {b : Nat} {d0 : Drawn} {k23 : Int32 → Mem → Option Int32} {x4 : Int32} {M : Mem} (hC : Cx p (s.setDrawn d0) m #[Value.ref b] c code RL 7 G) (hr : meth.sig.returnType = ret) (hlk : meth.locks = false) (hX : XF G (s.setDrawn d0)) (hd0 : s.drawn.sameBut d0 lw_cs) (hlt : l.stackTraces = false) (hsc : va_X b nS xs (s.setDrawn d0) (s.setDrawn d0).heap) (hbl : b < (s.setDrawn d0).heap.size) (hbA : ¬ gA G b) (hgA : ∀ q, gA G q → s.heap.size ≤ q) (hkk : k ≤ 512) (hk23 : ∀ (x4 : Int32) (M : Mem), k23 x4 M = some 1 → V p l e room_1 (s.setDrawn d0) m #[Value.ref b] below meth c 7 G (K0 + (k + 1)) (K1 + 6 * (k + 1)) (lw_Z below #[Value.ref b] s) 23 [(0, .ref b), (1, .ref (adr G 6 0)), (2, .ref (adr G 7 0)), (3, .ref (adr G 8 0)), (4, .int x4)] [] M) (h : B_L_law_1634 xs nS k23 x4 M = some 1) : V p l e room_1 (s.setDrawn d0) m #[Value.ref b] below meth c 7 G (K0 + k + 1) (K1 + 6 * k + 6) (lw_Z below #[Value.ref b] s) 1634 [(0, .ref b), (1, .ref (adr G 6 0)), (2, .ref (adr G 7 0)), (3, .ref (adr G 8 0)), (4, .int x4)] [] M := by
  refine V_goto hC 2323 dL_law_1634 (by decide) ?_
  refine V_widen (k := K0 + (k + 1)) (n := K1 + 6 * (k + 1)) (by omega) (by omega) ?_
  exact b_L_law_2323 hC hr hlk hX hd0 hlt hsc hbl hbA hgA hkk hk23 h
theorem b_L_law_1581 {xs : Nat → Int32} {nS : Nat} {k : Nat} {b : Nat} {d0 : Drawn} {k23 : Int32 → Mem → Option Int32} {x4 : Int32} {M : Mem} (hC : Cx p (s.setDrawn d0) m #[Value.ref b] c code RL 7 G) (hr : meth.sig.returnType = ret) (hlk : meth.locks = false) (hX : XF G (s.setDrawn d0)) (hd0 : s.drawn.sameBut d0 lw_cs) (hlt : l.stackTraces = false) (hsc : va_X b nS xs (s.setDrawn d0) (s.setDrawn d0).heap) (hbl : b < (s.setDrawn d0).heap.size) (hbA : ¬ gA G b) (hgA : ∀ q, gA G q → s.heap.size ≤ q) (hkk : k ≤ 512) (hk23 : ∀ (x4 : Int32) (M : Mem), k23 x4 M = some 1 → V p l e room_1 (s.setDrawn d0) m #[Value.ref b] below meth c 7 G (K0 + (k + 1)) (K1 + 6 * (k + 1)) (lw_Z below #[Value.ref b] s) 23 [(0, .ref b), (1, .ref (adr G 6 0)), (2, .ref (adr G 7 0)), (3, .ref (adr G 8 0)), (4, .int x4)] [] M) (h : B_L_law_1581 xs nS k23 x4 M = some 1) : V p l e room_1 (s.setDrawn d0) m #[Value.ref b] below meth c 7 G (K0 + k) (K1 + 6 * k) (lw_Z below #[Value.ref b] s) 1581 [(0, .ref b), (1, .ref (adr G 6 0)), (2, .ref (adr G 7 0)), (3, .ref (adr G 8 0)), (4, .int x4)] [] M := by
  refine V_aload_n hC dL_law_1581 rfl 1 rfl ?_
  refine V_aload_n hC dL_law_1582 rfl 0 rfl ?_
  refine V_iload hC dL_law_1583 4 rfl ?_
  refine V_iconst hC (1 : Int32) dL_law_1585 (by decide) ?_
  refine V_iadd hC dL_law_1586 ?_
  obtain ⟨c228, h⟩ := ite_some h
  refine V_sld hC hsc hbl hbA c228 dL_law_1587 ?_
  refine V_aload_n hC dL_law_1588 rfl 3 rfl ?_
  obtain ⟨q229, e229, h⟩ := bind_some h
  refine V_cW hC hX [.ref (adr G 6 0), .int (xs (cl (x4 + (1 : Int32)))), .ref (adr G 8 0)] (c_L_waitsFor (l := l) (rv := q229.1) (Mf := q229.2) hlt hC.2.2.2.2.2.2.2 e229) kx_L_waitsFor gw_1104 gw_1103 ⟨Nat.le_of_ble_eq_true rfl, Nat.le_of_ble_eq_true rfl⟩ rfl (Nat.le_of_ble_eq_true rfl) dL_law_1589 (law_rm hkk (by omega) (by omega)) rfl ?_
  refine V_istore hC ([(5, .int q229.1), (0, .ref b), (1, .ref (adr G 6 0)), (2, .ref (adr G 7 0)), (3, .ref (adr G 8 0)), (4, .int x4)]) dL_law_1592 (by decide) rfl ?_
  refine V_aload_n hC dL_law_1594 rfl 3 rfl ?_
  refine V_aload_n hC dL_law_1595 rfl 1 rfl ?_
  refine V_iload hC dL_law_1596 5 rfl ?_
  refine V_iconst hC (1 : Int32) dL_law_1598 (by decide) ?_
  refine V_iadd hC dL_law_1599 ?_
  obtain ⟨c230, h⟩ := ite_some h
  refine V_sld hC hsc hbl hbA c230 dL_law_1600 ?_
  obtain ⟨q231, e231, h⟩ := bind_some h
  refine V_cVr hC [.int (xs (cl (x4 + (1 : Int32))))] (c_X9_waitsFor (l := l) (rv := q231.1) (Mf := q231.2) hC.2.2.2.2.2.2.2 e231) kd_X9_waitsFor kv_X9_waitsFor gw_1625 (r_m0_0).o rfl ⟨Nat.le_of_ble_eq_true rfl, Nat.le_of_ble_eq_true rfl⟩ rfl (Nat.le_of_ble_eq_true rfl) dL_law_1601 (law_rm hkk (by omega) (by omega)) rfl ?_
  refine V_istore hC ([(6, .int q231.1), (5, .int q229.1), (0, .ref b), (1, .ref (adr G 6 0)), (2, .ref (adr G 7 0)), (3, .ref (adr G 8 0)), (4, .int x4)]) dL_law_1604 (by decide) rfl ?_
  refine V_aload_n hC dL_law_1606 rfl 4 rfl ?_
  refine V_cVr hC [] (c_X9_thrown (l := l) hC.2.2.2.2.2.2.2 rfl) kd_X9_thrown kv_X9_thrown gw_1310 (r_m0_0).o rfl ⟨Nat.le_of_ble_eq_true rfl, Nat.le_of_ble_eq_true rfl⟩ rfl (Nat.le_of_ble_eq_true rfl) dL_law_1607 (law_rm hkk (by omega) (by omega)) rfl ?_
  refine V_iload hC dL_law_1610 1 rfl ?_
  refine V_icmp_eq hC 1617 dL_law_1612 (by decide) (fun c233 => ?_) (fun c233 => ?_)
  · have h := ite_t c233 h
    refine V_iload hC dL_law_1617 1 rfl ?_
    refine V_if_ne hC 1634 dL_law_1619 (by decide) (fun c234 => ?_) (fun c234 => ?_)
    · have h := ite_f c234 h
      refine V_sub [2, 3, 4, 5, 6] rfl ?_
      exact b_L_law_1634 hC hr hlk hX hd0 hlt hsc hbl hbA hgA hkk hk23 h
    · have h := ite_t c234 h
      refine V_aload_n hC dL_law_1622 rfl 5 rfl ?_
      refine V_iconst hC (0 : Int32) dL_law_1623 (by decide) ?_
      refine V_lald hC rfl dL_law_1624 ?_
      refine V_iload hC dL_law_1625 0 rfl ?_
      refine V_i2l hC dL_law_1627 ?_
      refine V_lcmp hC dL_law_1628 ?_
      refine V_if_eq hC 1634 dL_law_1629 (by decide) (fun c235 => ?_) (fun c235 => ?_)
      · have h := ite_t c235 h
        refine V_sub [2, 3, 4, 5, 6] rfl ?_
        exact b_L_law_1634 hC hr hlk hX hd0 hlt hsc hbl hbA hgA hkk hk23 h
      · have h := ite_f c235 h
        refine V_iconst hC (0 : Int32) dL_law_1632 (by decide) ?_
        exact absurd h (by decide)
  · have h := ite_f c233 h
    refine V_iconst hC (0 : Int32) dL_law_1615 (by decide) ?_
    exact absurd h (by decide)
theorem b_L_law_1637 {xs : Nat → Int32} {nS : Nat} {k : Nat} {b : Nat} {d0 : Drawn} {k23 : Int32 → Mem → Option Int32} {x4 : Int32} {M : Mem} (hC : Cx p (s.setDrawn d0) m #[Value.ref b] c code RL 7 G) (hr : meth.sig.returnType = ret) (hlk : meth.locks = false) (hX : XF G (s.setDrawn d0)) (hd0 : s.drawn.sameBut d0 lw_cs) (hlt : l.stackTraces = false) (hsc : va_X b nS xs (s.setDrawn d0) (s.setDrawn d0).heap) (hbl : b < (s.setDrawn d0).heap.size) (hbA : ¬ gA G b) (hgA : ∀ q, gA G q → s.heap.size ≤ q) (hkk : k ≤ 512) (hk23 : ∀ (x4 : Int32) (M : Mem), k23 x4 M = some 1 → V p l e room_1 (s.setDrawn d0) m #[Value.ref b] below meth c 7 G (K0 + (k + 1)) (K1 + 6 * (k + 1)) (lw_Z below #[Value.ref b] s) 23 [(0, .ref b), (1, .ref (adr G 6 0)), (2, .ref (adr G 7 0)), (3, .ref (adr G 8 0)), (4, .int x4)] [] M) (h : B_L_law_1637 xs nS k23 x4 M = some 1) : V p l e room_1 (s.setDrawn d0) m #[Value.ref b] below meth c 7 G (K0 + k) (K1 + 6 * k) (lw_Z below #[Value.ref b] s) 1637 [(0, .ref b), (1, .ref (adr G 6 0)), (2, .ref (adr G 7 0)), (3, .ref (adr G 8 0)), (4, .int x4)] [] M := by
  refine V_aload_n hC dL_law_1637 rfl 1 rfl ?_
  refine V_cVr hC [] (c_X8_entries (l := l) hC.2.2.2.2.2.2.2 rfl) kd_X8_entries kv_X8_entries gw_234 (r_s0_0).o rfl ⟨Nat.le_of_ble_eq_true rfl, Nat.le_of_ble_eq_true rfl⟩ rfl (Nat.le_of_ble_eq_true rfl) dL_law_1638 (law_rm hkk (by omega) (by omega)) rfl ?_
  refine V_aload_n hC dL_law_1641 rfl 2 rfl ?_
  obtain ⟨q238, e238, h⟩ := bind_some h
  refine V_cVr hC [] (c_X9_entries (l := l) (rv := q238.1) (Mf := q238.2) hC.2.2.2.2.2.2.2 e238) kd_X9_entries kv_X9_entries gw_1629 (r_m0_0).o rfl ⟨Nat.le_of_ble_eq_true rfl, Nat.le_of_ble_eq_true rfl⟩ rfl (Nat.le_of_ble_eq_true rfl) dL_law_1642 (law_rm hkk (by omega) (by omega)) rfl ?_
  refine V_icmp_eq hC 2323 dL_law_1645 (by decide) (fun c239 => ?_) (fun c239 => ?_)
  · have h := ite_t c239 h
    refine V_widen (k := K0 + (k + 1)) (n := K1 + 6 * (k + 1)) (by omega) (by omega) ?_
    exact b_L_law_2323 hC hr hlk hX hd0 hlt hsc hbl hbA hgA hkk hk23 h
  · have h := ite_f c239 h
    refine V_iconst hC (0 : Int32) dL_law_1648 (by decide) ?_
    exact absurd h (by decide)
theorem b_L_law_1715 {xs : Nat → Int32} {nS : Nat} {k : Nat} {b : Nat} {d0 : Drawn} {k23 : Int32 → Mem → Option Int32} {x4 : Int32} {M : Mem} (hC : Cx p (s.setDrawn d0) m #[Value.ref b] c code RL 7 G) (hr : meth.sig.returnType = ret) (hlk : meth.locks = false) (hX : XF G (s.setDrawn d0)) (hd0 : s.drawn.sameBut d0 lw_cs) (hlt : l.stackTraces = false) (hsc : va_X b nS xs (s.setDrawn d0) (s.setDrawn d0).heap) (hbl : b < (s.setDrawn d0).heap.size) (hbA : ¬ gA G b) (hgA : ∀ q, gA G q → s.heap.size ≤ q) (hkk : k ≤ 512) (hk23 : ∀ (x4 : Int32) (M : Mem), k23 x4 M = some 1 → V p l e room_1 (s.setDrawn d0) m #[Value.ref b] below meth c 7 G (K0 + (k + 1)) (K1 + 6 * (k + 1)) (lw_Z below #[Value.ref b] s) 23 [(0, .ref b), (1, .ref (adr G 6 0)), (2, .ref (adr G 7 0)), (3, .ref (adr G 8 0)), (4, .int x4)] [] M) (h : B_L_law_1715 xs nS k23 x4 M = some 1) : V p l e room_1 (s.setDrawn d0) m #[Value.ref b] below meth c 7 G (K0 + k + 1) (K1 + 6 * k + 6) (lw_Z below #[Value.ref b] s) 1715 [(0, .ref b), (1, .ref (adr G 6 0)), (2, .ref (adr G 7 0)), (3, .ref (adr G 8 0)), (4, .int x4)] [] M := by
  refine V_goto hC 2323 dL_law_1715 (by decide) ?_
  refine V_widen (k := K0 + (k + 1)) (n := K1 + 6 * (k + 1)) (by omega) (by omega) ?_
  exact b_L_law_2323 hC hr hlk hX hd0 hlt hsc hbl hbA hgA hkk hk23 h
theorem b_L_law_1650 {xs : Nat → Int32} {nS : Nat} {k : Nat} {b : Nat} {d0 : Drawn} {k23 : Int32 → Mem → Option Int32} {x4 : Int32} {M : Mem} (hC : Cx p (s.setDrawn d0) m #[Value.ref b] c code RL 7 G) (hr : meth.sig.returnType = ret) (hlk : meth.locks = false) (hX : XF G (s.setDrawn d0)) (hd0 : s.drawn.sameBut d0 lw_cs) (hlt : l.stackTraces = false) (hsc : va_X b nS xs (s.setDrawn d0) (s.setDrawn d0).heap) (hbl : b < (s.setDrawn d0).heap.size) (hbA : ¬ gA G b) (hgA : ∀ q, gA G q → s.heap.size ≤ q) (hkk : k ≤ 512) (hk23 : ∀ (x4 : Int32) (M : Mem), k23 x4 M = some 1 → V p l e room_1 (s.setDrawn d0) m #[Value.ref b] below meth c 7 G (K0 + (k + 1)) (K1 + 6 * (k + 1)) (lw_Z below #[Value.ref b] s) 23 [(0, .ref b), (1, .ref (adr G 6 0)), (2, .ref (adr G 7 0)), (3, .ref (adr G 8 0)), (4, .int x4)] [] M) (h : B_L_law_1650 xs nS k23 x4 M = some 1) : V p l e room_1 (s.setDrawn d0) m #[Value.ref b] below meth c 7 G (K0 + k) (K1 + 6 * k) (lw_Z below #[Value.ref b] s) 1650 [(0, .ref b), (1, .ref (adr G 6 0)), (2, .ref (adr G 7 0)), (3, .ref (adr G 8 0)), (4, .int x4)] [] M := by
  refine V_aload_n hC dL_law_1650 rfl 1 rfl ?_
  refine V_aload_n hC dL_law_1651 rfl 0 rfl ?_
  refine V_iload hC dL_law_1652 4 rfl ?_
  refine V_iconst hC (1 : Int32) dL_law_1654 (by decide) ?_
  refine V_iadd hC dL_law_1655 ?_
  obtain ⟨c241, h⟩ := ite_some h
  refine V_sld hC hsc hbl hbA c241 dL_law_1656 ?_
  refine V_aload_n hC dL_law_1657 rfl 0 rfl ?_
  refine V_iload hC dL_law_1658 4 rfl ?_
  refine V_iconst hC (2 : Int32) dL_law_1660 (by decide) ?_
  refine V_iadd hC dL_law_1661 ?_
  obtain ⟨c242, h⟩ := ite_some h
  refine V_sld hC hsc hbl hbA c242 dL_law_1662 ?_
  refine V_aload_n hC dL_law_1663 rfl 3 rfl ?_
  obtain ⟨q243, e243, h⟩ := bind_some h
  refine V_cW hC hX [.ref (adr G 6 0), .int (xs (cl (x4 + (1 : Int32)))), .int (xs (cl (x4 + (2 : Int32)))), .ref (adr G 8 0)] (c_L_entry (l := l) (rv := q243.1) (Mf := q243.2) hlt hC.2.2.2.2.2.2.2 e243) kx_L_entry gw_1115 gw_1114 ⟨Nat.le_of_ble_eq_true rfl, Nat.le_of_ble_eq_true rfl⟩ rfl (Nat.le_of_ble_eq_true rfl) dL_law_1664 (law_rm hkk (by omega) (by omega)) rfl ?_
  refine V_istore hC ([(5, .int q243.1), (0, .ref b), (1, .ref (adr G 6 0)), (2, .ref (adr G 7 0)), (3, .ref (adr G 8 0)), (4, .int x4)]) dL_law_1667 (by decide) rfl ?_
  refine V_aload_n hC dL_law_1669 rfl 3 rfl ?_
  refine V_aload_n hC dL_law_1670 rfl 1 rfl ?_
  refine V_iload hC dL_law_1671 5 rfl ?_
  refine V_iconst hC (1 : Int32) dL_law_1673 (by decide) ?_
  refine V_iadd hC dL_law_1674 ?_
  obtain ⟨c244, h⟩ := ite_some h
  refine V_sld hC hsc hbl hbA c244 dL_law_1675 ?_
  refine V_aload_n hC dL_law_1676 rfl 1 rfl ?_
  refine V_iload hC dL_law_1677 5 rfl ?_
  refine V_iconst hC (2 : Int32) dL_law_1679 (by decide) ?_
  refine V_iadd hC dL_law_1680 ?_
  obtain ⟨c245, h⟩ := ite_some h
  refine V_sld hC hsc hbl hbA c245 dL_law_1681 ?_
  obtain ⟨q246, e246, h⟩ := bind_some h
  refine V_cVr hC [.int (xs (cl (x4 + (1 : Int32)))), .int (xs (cl (x4 + (2 : Int32))))] (c_X9_entry (l := l) (rv := q246.1) (Mf := q246.2) hC.2.2.2.2.2.2.2 e246) kd_X9_entry kv_X9_entry gw_1633 (r_m0_0).o rfl ⟨Nat.le_of_ble_eq_true rfl, Nat.le_of_ble_eq_true rfl⟩ rfl (Nat.le_of_ble_eq_true rfl) dL_law_1682 (law_rm hkk (by omega) (by omega)) rfl ?_
  refine V_istore hC ([(6, .int q246.1), (5, .int q243.1), (0, .ref b), (1, .ref (adr G 6 0)), (2, .ref (adr G 7 0)), (3, .ref (adr G 8 0)), (4, .int x4)]) dL_law_1685 (by decide) rfl ?_
  refine V_aload_n hC dL_law_1687 rfl 4 rfl ?_
  refine V_cVr hC [] (c_X9_thrown (l := l) hC.2.2.2.2.2.2.2 rfl) kd_X9_thrown kv_X9_thrown gw_1310 (r_m0_0).o rfl ⟨Nat.le_of_ble_eq_true rfl, Nat.le_of_ble_eq_true rfl⟩ rfl (Nat.le_of_ble_eq_true rfl) dL_law_1688 (law_rm hkk (by omega) (by omega)) rfl ?_
  refine V_iload hC dL_law_1691 1 rfl ?_
  refine V_icmp_eq hC 1698 dL_law_1693 (by decide) (fun c248 => ?_) (fun c248 => ?_)
  · have h := ite_t c248 h
    refine V_iload hC dL_law_1698 1 rfl ?_
    refine V_if_ne hC 1715 dL_law_1700 (by decide) (fun c249 => ?_) (fun c249 => ?_)
    · have h := ite_f c249 h
      refine V_sub [2, 3, 4, 5, 6] rfl ?_
      exact b_L_law_1715 hC hr hlk hX hd0 hlt hsc hbl hbA hgA hkk hk23 h
    · have h := ite_t c249 h
      refine V_aload_n hC dL_law_1703 rfl 5 rfl ?_
      refine V_iconst hC (0 : Int32) dL_law_1704 (by decide) ?_
      refine V_lald hC rfl dL_law_1705 ?_
      refine V_iload hC dL_law_1706 0 rfl ?_
      refine V_i2l hC dL_law_1708 ?_
      refine V_lcmp hC dL_law_1709 ?_
      refine V_if_eq hC 1715 dL_law_1710 (by decide) (fun c250 => ?_) (fun c250 => ?_)
      · have h := ite_t c250 h
        refine V_sub [2, 3, 4, 5, 6] rfl ?_
        exact b_L_law_1715 hC hr hlk hX hd0 hlt hsc hbl hbA hgA hkk hk23 h
      · have h := ite_f c250 h
        refine V_iconst hC (0 : Int32) dL_law_1713 (by decide) ?_
        exact absurd h (by decide)
  · have h := ite_f c248 h
    refine V_iconst hC (0 : Int32) dL_law_1696 (by decide) ?_
    exact absurd h (by decide)
theorem b_L_law_1783 {xs : Nat → Int32} {nS : Nat} {k : Nat} {b : Nat} {d0 : Drawn} {k23 : Int32 → Mem → Option Int32} {x4 : Int32} {M : Mem} (hC : Cx p (s.setDrawn d0) m #[Value.ref b] c code RL 7 G) (hr : meth.sig.returnType = ret) (hlk : meth.locks = false) (hX : XF G (s.setDrawn d0)) (hd0 : s.drawn.sameBut d0 lw_cs) (hlt : l.stackTraces = false) (hsc : va_X b nS xs (s.setDrawn d0) (s.setDrawn d0).heap) (hbl : b < (s.setDrawn d0).heap.size) (hbA : ¬ gA G b) (hgA : ∀ q, gA G q → s.heap.size ≤ q) (hkk : k ≤ 512) (hk23 : ∀ (x4 : Int32) (M : Mem), k23 x4 M = some 1 → V p l e room_1 (s.setDrawn d0) m #[Value.ref b] below meth c 7 G (K0 + (k + 1)) (K1 + 6 * (k + 1)) (lw_Z below #[Value.ref b] s) 23 [(0, .ref b), (1, .ref (adr G 6 0)), (2, .ref (adr G 7 0)), (3, .ref (adr G 8 0)), (4, .int x4)] [] M) (h : B_L_law_1783 xs nS k23 x4 M = some 1) : V p l e room_1 (s.setDrawn d0) m #[Value.ref b] below meth c 7 G (K0 + k + 1) (K1 + 6 * k + 6) (lw_Z below #[Value.ref b] s) 1783 [(0, .ref b), (1, .ref (adr G 6 0)), (2, .ref (adr G 7 0)), (3, .ref (adr G 8 0)), (4, .int x4)] [] M := by
  refine V_goto hC 2323 dL_law_1783 (by decide) ?_
  refine V_widen (k := K0 + (k + 1)) (n := K1 + 6 * (k + 1)) (by omega) (by omega) ?_
  exact b_L_law_2323 hC hr hlk hX hd0 hlt hsc hbl hbA hgA hkk hk23 h
theorem b_L_law_1718 {xs : Nat → Int32} {nS : Nat} {k : Nat} {b : Nat} {d0 : Drawn} {k23 : Int32 → Mem → Option Int32} {x4 : Int32} {M : Mem} (hC : Cx p (s.setDrawn d0) m #[Value.ref b] c code RL 7 G) (hr : meth.sig.returnType = ret) (hlk : meth.locks = false) (hX : XF G (s.setDrawn d0)) (hd0 : s.drawn.sameBut d0 lw_cs) (hlt : l.stackTraces = false) (hsc : va_X b nS xs (s.setDrawn d0) (s.setDrawn d0).heap) (hbl : b < (s.setDrawn d0).heap.size) (hbA : ¬ gA G b) (hgA : ∀ q, gA G q → s.heap.size ≤ q) (hkk : k ≤ 512) (hk23 : ∀ (x4 : Int32) (M : Mem), k23 x4 M = some 1 → V p l e room_1 (s.setDrawn d0) m #[Value.ref b] below meth c 7 G (K0 + (k + 1)) (K1 + 6 * (k + 1)) (lw_Z below #[Value.ref b] s) 23 [(0, .ref b), (1, .ref (adr G 6 0)), (2, .ref (adr G 7 0)), (3, .ref (adr G 8 0)), (4, .int x4)] [] M) (h : B_L_law_1718 xs nS k23 x4 M = some 1) : V p l e room_1 (s.setDrawn d0) m #[Value.ref b] below meth c 7 G (K0 + k) (K1 + 6 * k) (lw_Z below #[Value.ref b] s) 1718 [(0, .ref b), (1, .ref (adr G 6 0)), (2, .ref (adr G 7 0)), (3, .ref (adr G 8 0)), (4, .int x4)] [] M := by
  refine V_aload_n hC dL_law_1718 rfl 1 rfl ?_
  refine V_aload_n hC dL_law_1719 rfl 0 rfl ?_
  refine V_iload hC dL_law_1720 4 rfl ?_
  refine V_iconst hC (1 : Int32) dL_law_1722 (by decide) ?_
  refine V_iadd hC dL_law_1723 ?_
  obtain ⟨c252, h⟩ := ite_some h
  refine V_sld hC hsc hbl hbA c252 dL_law_1724 ?_
  refine V_aload_n hC dL_law_1725 rfl 0 rfl ?_
  refine V_iload hC dL_law_1726 4 rfl ?_
  refine V_iconst hC (2 : Int32) dL_law_1728 (by decide) ?_
  refine V_iadd hC dL_law_1729 ?_
  obtain ⟨c253, h⟩ := ite_some h
  refine V_sld hC hsc hbl hbA c253 dL_law_1730 ?_
  refine V_aload_n hC dL_law_1731 rfl 3 rfl ?_
  obtain ⟨q254, e254, h⟩ := bind_some h
  refine V_cW hC hX [.ref (adr G 6 0), .int (xs (cl (x4 + (1 : Int32)))), .int (xs (cl (x4 + (2 : Int32)))), .ref (adr G 8 0)] (c_L_blame (l := l) (rv := q254.1) (Mf := q254.2) hlt hC.2.2.2.2.2.2.2 e254) kx_L_blame gw_1123 gw_1122 ⟨Nat.le_of_ble_eq_true rfl, Nat.le_of_ble_eq_true rfl⟩ rfl (Nat.le_of_ble_eq_true rfl) dL_law_1732 (law_rm hkk (by omega) (by omega)) rfl ?_
  refine V_istore hC ([(5, .int q254.1), (0, .ref b), (1, .ref (adr G 6 0)), (2, .ref (adr G 7 0)), (3, .ref (adr G 8 0)), (4, .int x4)]) dL_law_1735 (by decide) rfl ?_
  refine V_aload_n hC dL_law_1737 rfl 3 rfl ?_
  refine V_aload_n hC dL_law_1738 rfl 1 rfl ?_
  refine V_iload hC dL_law_1739 5 rfl ?_
  refine V_iconst hC (1 : Int32) dL_law_1741 (by decide) ?_
  refine V_iadd hC dL_law_1742 ?_
  obtain ⟨c255, h⟩ := ite_some h
  refine V_sld hC hsc hbl hbA c255 dL_law_1743 ?_
  refine V_aload_n hC dL_law_1744 rfl 1 rfl ?_
  refine V_iload hC dL_law_1745 5 rfl ?_
  refine V_iconst hC (2 : Int32) dL_law_1747 (by decide) ?_
  refine V_iadd hC dL_law_1748 ?_
  obtain ⟨c256, h⟩ := ite_some h
  refine V_sld hC hsc hbl hbA c256 dL_law_1749 ?_
  obtain ⟨q257, e257, h⟩ := bind_some h
  refine V_cVr hC [.int (xs (cl (x4 + (1 : Int32)))), .int (xs (cl (x4 + (2 : Int32))))] (c_X9_blame (l := l) (rv := q257.1) (Mf := q257.2) hC.2.2.2.2.2.2.2 e257) kd_X9_blame kv_X9_blame gw_1637 (r_m0_0).o rfl ⟨Nat.le_of_ble_eq_true rfl, Nat.le_of_ble_eq_true rfl⟩ rfl (Nat.le_of_ble_eq_true rfl) dL_law_1750 (law_rm hkk (by omega) (by omega)) rfl ?_
  refine V_istore hC ([(6, .int q257.1), (5, .int q254.1), (0, .ref b), (1, .ref (adr G 6 0)), (2, .ref (adr G 7 0)), (3, .ref (adr G 8 0)), (4, .int x4)]) dL_law_1753 (by decide) rfl ?_
  refine V_aload_n hC dL_law_1755 rfl 4 rfl ?_
  refine V_cVr hC [] (c_X9_thrown (l := l) hC.2.2.2.2.2.2.2 rfl) kd_X9_thrown kv_X9_thrown gw_1310 (r_m0_0).o rfl ⟨Nat.le_of_ble_eq_true rfl, Nat.le_of_ble_eq_true rfl⟩ rfl (Nat.le_of_ble_eq_true rfl) dL_law_1756 (law_rm hkk (by omega) (by omega)) rfl ?_
  refine V_iload hC dL_law_1759 1 rfl ?_
  refine V_icmp_eq hC 1766 dL_law_1761 (by decide) (fun c259 => ?_) (fun c259 => ?_)
  · have h := ite_t c259 h
    refine V_iload hC dL_law_1766 1 rfl ?_
    refine V_if_ne hC 1783 dL_law_1768 (by decide) (fun c260 => ?_) (fun c260 => ?_)
    · have h := ite_f c260 h
      refine V_sub [2, 3, 4, 5, 6] rfl ?_
      exact b_L_law_1783 hC hr hlk hX hd0 hlt hsc hbl hbA hgA hkk hk23 h
    · have h := ite_t c260 h
      refine V_aload_n hC dL_law_1771 rfl 5 rfl ?_
      refine V_iconst hC (0 : Int32) dL_law_1772 (by decide) ?_
      refine V_lald hC rfl dL_law_1773 ?_
      refine V_iload hC dL_law_1774 0 rfl ?_
      refine V_i2l hC dL_law_1776 ?_
      refine V_lcmp hC dL_law_1777 ?_
      refine V_if_eq hC 1783 dL_law_1778 (by decide) (fun c261 => ?_) (fun c261 => ?_)
      · have h := ite_t c261 h
        refine V_sub [2, 3, 4, 5, 6] rfl ?_
        exact b_L_law_1783 hC hr hlk hX hd0 hlt hsc hbl hbA hgA hkk hk23 h
      · have h := ite_f c261 h
        refine V_iconst hC (0 : Int32) dL_law_1781 (by decide) ?_
        exact absurd h (by decide)
  · have h := ite_f c259 h
    refine V_iconst hC (0 : Int32) dL_law_1764 (by decide) ?_
    exact absurd h (by decide)
theorem b_L_law_1863 {xs : Nat → Int32} {nS : Nat} {k : Nat} {b : Nat} {d0 : Drawn} {k23 : Int32 → Mem → Option Int32} {x4 : Int32} {M : Mem} (hC : Cx p (s.setDrawn d0) m #[Value.ref b] c code RL 7 G) (hr : meth.sig.returnType = ret) (hlk : meth.locks = false) (hX : XF G (s.setDrawn d0)) (hd0 : s.drawn.sameBut d0 lw_cs) (hlt : l.stackTraces = false) (hsc : va_X b nS xs (s.setDrawn d0) (s.setDrawn d0).heap) (hbl : b < (s.setDrawn d0).heap.size) (hbA : ¬ gA G b) (hgA : ∀ q, gA G q → s.heap.size ≤ q) (hkk : k ≤ 512) (hk23 : ∀ (x4 : Int32) (M : Mem), k23 x4 M = some 1 → V p l e room_1 (s.setDrawn d0) m #[Value.ref b] below meth c 7 G (K0 + (k + 1)) (K1 + 6 * (k + 1)) (lw_Z below #[Value.ref b] s) 23 [(0, .ref b), (1, .ref (adr G 6 0)), (2, .ref (adr G 7 0)), (3, .ref (adr G 8 0)), (4, .int x4)] [] M) (h : B_L_law_1863 xs nS k23 x4 M = some 1) : V p l e room_1 (s.setDrawn d0) m #[Value.ref b] below meth c 7 G (K0 + k + 1) (K1 + 6 * k + 6) (lw_Z below #[Value.ref b] s) 1863 [(0, .ref b), (1, .ref (adr G 6 0)), (2, .ref (adr G 7 0)), (3, .ref (adr G 8 0)), (4, .int x4)] [] M := by
  refine V_goto hC 2323 dL_law_1863 (by decide) ?_
  refine V_widen (k := K0 + (k + 1)) (n := K1 + 6 * (k + 1)) (by omega) (by omega) ?_
  exact b_L_law_2323 hC hr hlk hX hd0 hlt hsc hbl hbA hgA hkk hk23 h
theorem b_L_law_1786 {xs : Nat → Int32} {nS : Nat} {k : Nat} {b : Nat} {d0 : Drawn} {k23 : Int32 → Mem → Option Int32} {x4 : Int32} {M : Mem} (hC : Cx p (s.setDrawn d0) m #[Value.ref b] c code RL 7 G) (hr : meth.sig.returnType = ret) (hlk : meth.locks = false) (hX : XF G (s.setDrawn d0)) (hd0 : s.drawn.sameBut d0 lw_cs) (hlt : l.stackTraces = false) (hsc : va_X b nS xs (s.setDrawn d0) (s.setDrawn d0).heap) (hbl : b < (s.setDrawn d0).heap.size) (hbA : ¬ gA G b) (hgA : ∀ q, gA G q → s.heap.size ≤ q) (hkk : k ≤ 512) (hk23 : ∀ (x4 : Int32) (M : Mem), k23 x4 M = some 1 → V p l e room_1 (s.setDrawn d0) m #[Value.ref b] below meth c 7 G (K0 + (k + 1)) (K1 + 6 * (k + 1)) (lw_Z below #[Value.ref b] s) 23 [(0, .ref b), (1, .ref (adr G 6 0)), (2, .ref (adr G 7 0)), (3, .ref (adr G 8 0)), (4, .int x4)] [] M) (h : B_L_law_1786 xs nS k23 x4 M = some 1) : V p l e room_1 (s.setDrawn d0) m #[Value.ref b] below meth c 7 G (K0 + k) (K1 + 6 * k) (lw_Z below #[Value.ref b] s) 1786 [(0, .ref b), (1, .ref (adr G 6 0)), (2, .ref (adr G 7 0)), (3, .ref (adr G 8 0)), (4, .int x4)] [] M := by
  refine V_aload_n hC dL_law_1786 rfl 1 rfl ?_
  refine V_aload_n hC dL_law_1787 rfl 0 rfl ?_
  refine V_iload hC dL_law_1788 4 rfl ?_
  refine V_iconst hC (1 : Int32) dL_law_1790 (by decide) ?_
  refine V_iadd hC dL_law_1791 ?_
  obtain ⟨c263, h⟩ := ite_some h
  refine V_sld hC hsc hbl hbA c263 dL_law_1792 ?_
  refine V_aload_n hC dL_law_1793 rfl 0 rfl ?_
  refine V_iload hC dL_law_1794 4 rfl ?_
  refine V_iconst hC (2 : Int32) dL_law_1796 (by decide) ?_
  refine V_iadd hC dL_law_1797 ?_
  obtain ⟨c264, h⟩ := ite_some h
  refine V_sld hC hsc hbl hbA c264 dL_law_1798 ?_
  refine V_aload_n hC dL_law_1799 rfl 0 rfl ?_
  refine V_iload hC dL_law_1800 4 rfl ?_
  refine V_iconst hC (3 : Int32) dL_law_1802 (by decide) ?_
  refine V_iadd hC dL_law_1803 ?_
  obtain ⟨c265, h⟩ := ite_some h
  refine V_sld hC hsc hbl hbA c265 dL_law_1804 ?_
  refine V_aload_n hC dL_law_1805 rfl 3 rfl ?_
  obtain ⟨q266, e266, h⟩ := bind_some h
  refine V_cW hC hX [.ref (adr G 6 0), .int (xs (cl (x4 + (1 : Int32)))), .int (xs (cl (x4 + (2 : Int32)))), .int (xs (cl (x4 + (3 : Int32)))), .ref (adr G 8 0)] (c_L_lineAt (l := l) (rv := q266.1) (Mf := q266.2) hlt hC.2.2.2.2.2.2.2 e266) kx_L_lineAt gw_1134 gw_1133 ⟨Nat.le_of_ble_eq_true rfl, Nat.le_of_ble_eq_true rfl⟩ rfl (Nat.le_of_ble_eq_true rfl) dL_law_1806 (law_rm hkk (by omega) (by omega)) rfl ?_
  refine V_istore hC ([(5, .int q266.1), (0, .ref b), (1, .ref (adr G 6 0)), (2, .ref (adr G 7 0)), (3, .ref (adr G 8 0)), (4, .int x4)]) dL_law_1809 (by decide) rfl ?_
  refine V_aload_n hC dL_law_1811 rfl 3 rfl ?_
  refine V_aload_n hC dL_law_1812 rfl 1 rfl ?_
  refine V_iload hC dL_law_1813 5 rfl ?_
  refine V_iconst hC (1 : Int32) dL_law_1815 (by decide) ?_
  refine V_iadd hC dL_law_1816 ?_
  obtain ⟨c267, h⟩ := ite_some h
  refine V_sld hC hsc hbl hbA c267 dL_law_1817 ?_
  refine V_aload_n hC dL_law_1818 rfl 1 rfl ?_
  refine V_iload hC dL_law_1819 5 rfl ?_
  refine V_iconst hC (2 : Int32) dL_law_1821 (by decide) ?_
  refine V_iadd hC dL_law_1822 ?_
  obtain ⟨c268, h⟩ := ite_some h
  refine V_sld hC hsc hbl hbA c268 dL_law_1823 ?_
  refine V_aload_n hC dL_law_1824 rfl 1 rfl ?_
  refine V_iload hC dL_law_1825 5 rfl ?_
  refine V_iconst hC (3 : Int32) dL_law_1827 (by decide) ?_
  refine V_iadd hC dL_law_1828 ?_
  obtain ⟨c269, h⟩ := ite_some h
  refine V_sld hC hsc hbl hbA c269 dL_law_1829 ?_
  obtain ⟨q270, e270, h⟩ := bind_some h
  refine V_cVr hC [.int (xs (cl (x4 + (1 : Int32)))), .int (xs (cl (x4 + (2 : Int32)))), .int (xs (cl (x4 + (3 : Int32))))] (c_X9_lineAt (l := l) (rv := q270.1) (Mf := q270.2) hC.2.2.2.2.2.2.2 e270) kd_X9_lineAt kv_X9_lineAt gw_1641 (r_m0_0).o rfl ⟨Nat.le_of_ble_eq_true rfl, Nat.le_of_ble_eq_true rfl⟩ rfl (Nat.le_of_ble_eq_true rfl) dL_law_1830 (law_rm hkk (by omega) (by omega)) rfl ?_
  refine V_istore hC ([(6, .int q270.1), (5, .int q266.1), (0, .ref b), (1, .ref (adr G 6 0)), (2, .ref (adr G 7 0)), (3, .ref (adr G 8 0)), (4, .int x4)]) dL_law_1833 (by decide) rfl ?_
  refine V_aload_n hC dL_law_1835 rfl 4 rfl ?_
  refine V_cVr hC [] (c_X9_thrown (l := l) hC.2.2.2.2.2.2.2 rfl) kd_X9_thrown kv_X9_thrown gw_1310 (r_m0_0).o rfl ⟨Nat.le_of_ble_eq_true rfl, Nat.le_of_ble_eq_true rfl⟩ rfl (Nat.le_of_ble_eq_true rfl) dL_law_1836 (law_rm hkk (by omega) (by omega)) rfl ?_
  refine V_iload hC dL_law_1839 1 rfl ?_
  refine V_icmp_eq hC 1846 dL_law_1841 (by decide) (fun c272 => ?_) (fun c272 => ?_)
  · have h := ite_t c272 h
    refine V_iload hC dL_law_1846 1 rfl ?_
    refine V_if_ne hC 1863 dL_law_1848 (by decide) (fun c273 => ?_) (fun c273 => ?_)
    · have h := ite_f c273 h
      refine V_sub [2, 3, 4, 5, 6] rfl ?_
      exact b_L_law_1863 hC hr hlk hX hd0 hlt hsc hbl hbA hgA hkk hk23 h
    · have h := ite_t c273 h
      refine V_aload_n hC dL_law_1851 rfl 5 rfl ?_
      refine V_iconst hC (0 : Int32) dL_law_1852 (by decide) ?_
      refine V_lald hC rfl dL_law_1853 ?_
      refine V_iload hC dL_law_1854 0 rfl ?_
      refine V_i2l hC dL_law_1856 ?_
      refine V_lcmp hC dL_law_1857 ?_
      refine V_if_eq hC 1863 dL_law_1858 (by decide) (fun c274 => ?_) (fun c274 => ?_)
      · have h := ite_t c274 h
        refine V_sub [2, 3, 4, 5, 6] rfl ?_
        exact b_L_law_1863 hC hr hlk hX hd0 hlt hsc hbl hbA hgA hkk hk23 h
      · have h := ite_f c274 h
        refine V_iconst hC (0 : Int32) dL_law_1861 (by decide) ?_
        exact absurd h (by decide)
  · have h := ite_f c272 h
    refine V_iconst hC (0 : Int32) dL_law_1844 (by decide) ?_
    exact absurd h (by decide)
theorem b_L_law_1931 {xs : Nat → Int32} {nS : Nat} {k : Nat} {b : Nat} {d0 : Drawn} {k23 : Int32 → Mem → Option Int32} {x4 : Int32} {M : Mem} (hC : Cx p (s.setDrawn d0) m #[Value.ref b] c code RL 7 G) (hr : meth.sig.returnType = ret) (hlk : meth.locks = false) (hX : XF G (s.setDrawn d0)) (hd0 : s.drawn.sameBut d0 lw_cs) (hlt : l.stackTraces = false) (hsc : va_X b nS xs (s.setDrawn d0) (s.setDrawn d0).heap) (hbl : b < (s.setDrawn d0).heap.size) (hbA : ¬ gA G b) (hgA : ∀ q, gA G q → s.heap.size ≤ q) (hkk : k ≤ 512) (hk23 : ∀ (x4 : Int32) (M : Mem), k23 x4 M = some 1 → V p l e room_1 (s.setDrawn d0) m #[Value.ref b] below meth c 7 G (K0 + (k + 1)) (K1 + 6 * (k + 1)) (lw_Z below #[Value.ref b] s) 23 [(0, .ref b), (1, .ref (adr G 6 0)), (2, .ref (adr G 7 0)), (3, .ref (adr G 8 0)), (4, .int x4)] [] M) (h : B_L_law_1931 xs nS k23 x4 M = some 1) : V p l e room_1 (s.setDrawn d0) m #[Value.ref b] below meth c 7 G (K0 + k + 1) (K1 + 6 * k + 6) (lw_Z below #[Value.ref b] s) 1931 [(0, .ref b), (1, .ref (adr G 6 0)), (2, .ref (adr G 7 0)), (3, .ref (adr G 8 0)), (4, .int x4)] [] M := by
  refine V_goto hC 2323 dL_law_1931 (by decide) ?_
  refine V_widen (k := K0 + (k + 1)) (n := K1 + 6 * (k + 1)) (by omega) (by omega) ?_
  exact b_L_law_2323 hC hr hlk hX hd0 hlt hsc hbl hbA hgA hkk hk23 h
theorem b_L_law_1866 {xs : Nat → Int32} {nS : Nat} {k : Nat} {b : Nat} {d0 : Drawn} {k23 : Int32 → Mem → Option Int32} {x4 : Int32} {M : Mem} (hC : Cx p (s.setDrawn d0) m #[Value.ref b] c code RL 7 G) (hr : meth.sig.returnType = ret) (hlk : meth.locks = false) (hX : XF G (s.setDrawn d0)) (hd0 : s.drawn.sameBut d0 lw_cs) (hlt : l.stackTraces = false) (hsc : va_X b nS xs (s.setDrawn d0) (s.setDrawn d0).heap) (hbl : b < (s.setDrawn d0).heap.size) (hbA : ¬ gA G b) (hgA : ∀ q, gA G q → s.heap.size ≤ q) (hkk : k ≤ 512) (hk23 : ∀ (x4 : Int32) (M : Mem), k23 x4 M = some 1 → V p l e room_1 (s.setDrawn d0) m #[Value.ref b] below meth c 7 G (K0 + (k + 1)) (K1 + 6 * (k + 1)) (lw_Z below #[Value.ref b] s) 23 [(0, .ref b), (1, .ref (adr G 6 0)), (2, .ref (adr G 7 0)), (3, .ref (adr G 8 0)), (4, .int x4)] [] M) (h : B_L_law_1866 xs nS k23 x4 M = some 1) : V p l e room_1 (s.setDrawn d0) m #[Value.ref b] below meth c 7 G (K0 + k) (K1 + 6 * k) (lw_Z below #[Value.ref b] s) 1866 [(0, .ref b), (1, .ref (adr G 6 0)), (2, .ref (adr G 7 0)), (3, .ref (adr G 8 0)), (4, .int x4)] [] M := by
  refine V_aload_n hC dL_law_1866 rfl 1 rfl ?_
  refine V_aload_n hC dL_law_1867 rfl 0 rfl ?_
  refine V_iload hC dL_law_1868 4 rfl ?_
  refine V_iconst hC (1 : Int32) dL_law_1870 (by decide) ?_
  refine V_iadd hC dL_law_1871 ?_
  obtain ⟨c276, h⟩ := ite_some h
  refine V_sld hC hsc hbl hbA c276 dL_law_1872 ?_
  refine V_aload_n hC dL_law_1873 rfl 0 rfl ?_
  refine V_iload hC dL_law_1874 4 rfl ?_
  refine V_iconst hC (2 : Int32) dL_law_1876 (by decide) ?_
  refine V_iadd hC dL_law_1877 ?_
  obtain ⟨c277, h⟩ := ite_some h
  refine V_sld hC hsc hbl hbA c277 dL_law_1878 ?_
  refine V_aload_n hC dL_law_1879 rfl 3 rfl ?_
  obtain ⟨q278, e278, h⟩ := bind_some h
  refine V_cW hC hX [.ref (adr G 6 0), .int (xs (cl (x4 + (1 : Int32)))), .int (xs (cl (x4 + (2 : Int32)))), .ref (adr G 8 0)] (c_L_revert (l := l) (rv := q278.1) (Mf := q278.2) hlt hC.2.2.2.2.2.2.2 e278) kx_L_revert gw_1151 gw_1150 ⟨Nat.le_of_ble_eq_true rfl, Nat.le_of_ble_eq_true rfl⟩ rfl (Nat.le_of_ble_eq_true rfl) dL_law_1880 (law_rm hkk (by omega) (by omega)) rfl ?_
  refine V_istore hC ([(5, .int q278.1), (0, .ref b), (1, .ref (adr G 6 0)), (2, .ref (adr G 7 0)), (3, .ref (adr G 8 0)), (4, .int x4)]) dL_law_1883 (by decide) rfl ?_
  refine V_aload_n hC dL_law_1885 rfl 3 rfl ?_
  refine V_aload_n hC dL_law_1886 rfl 1 rfl ?_
  refine V_iload hC dL_law_1887 5 rfl ?_
  refine V_iconst hC (1 : Int32) dL_law_1889 (by decide) ?_
  refine V_iadd hC dL_law_1890 ?_
  obtain ⟨c279, h⟩ := ite_some h
  refine V_sld hC hsc hbl hbA c279 dL_law_1891 ?_
  refine V_aload_n hC dL_law_1892 rfl 1 rfl ?_
  refine V_iload hC dL_law_1893 5 rfl ?_
  refine V_iconst hC (2 : Int32) dL_law_1895 (by decide) ?_
  refine V_iadd hC dL_law_1896 ?_
  obtain ⟨c280, h⟩ := ite_some h
  refine V_sld hC hsc hbl hbA c280 dL_law_1897 ?_
  obtain ⟨q281, e281, h⟩ := bind_some h
  refine V_cVr hC [.int (xs (cl (x4 + (1 : Int32)))), .int (xs (cl (x4 + (2 : Int32))))] (c_X9_revert (l := l) (rv := q281.1) (Mf := q281.2) hC.2.2.2.2.2.2.2 e281) kd_X9_revert kv_X9_revert gw_1653 (r_m0_0).o rfl ⟨Nat.le_of_ble_eq_true rfl, Nat.le_of_ble_eq_true rfl⟩ rfl (Nat.le_of_ble_eq_true rfl) dL_law_1898 (law_rm hkk (by omega) (by omega)) rfl ?_
  refine V_istore hC ([(6, .int q281.1), (5, .int q278.1), (0, .ref b), (1, .ref (adr G 6 0)), (2, .ref (adr G 7 0)), (3, .ref (adr G 8 0)), (4, .int x4)]) dL_law_1901 (by decide) rfl ?_
  refine V_aload_n hC dL_law_1903 rfl 4 rfl ?_
  refine V_cVr hC [] (c_X9_thrown (l := l) hC.2.2.2.2.2.2.2 rfl) kd_X9_thrown kv_X9_thrown gw_1310 (r_m0_0).o rfl ⟨Nat.le_of_ble_eq_true rfl, Nat.le_of_ble_eq_true rfl⟩ rfl (Nat.le_of_ble_eq_true rfl) dL_law_1904 (law_rm hkk (by omega) (by omega)) rfl ?_
  refine V_iload hC dL_law_1907 1 rfl ?_
  refine V_icmp_eq hC 1914 dL_law_1909 (by decide) (fun c283 => ?_) (fun c283 => ?_)
  · have h := ite_t c283 h
    refine V_iload hC dL_law_1914 1 rfl ?_
    refine V_if_ne hC 1931 dL_law_1916 (by decide) (fun c284 => ?_) (fun c284 => ?_)
    · have h := ite_f c284 h
      refine V_sub [2, 3, 4, 5, 6] rfl ?_
      exact b_L_law_1931 hC hr hlk hX hd0 hlt hsc hbl hbA hgA hkk hk23 h
    · have h := ite_t c284 h
      refine V_aload_n hC dL_law_1919 rfl 5 rfl ?_
      refine V_iconst hC (0 : Int32) dL_law_1920 (by decide) ?_
      refine V_lald hC rfl dL_law_1921 ?_
      refine V_iload hC dL_law_1922 0 rfl ?_
      refine V_i2l hC dL_law_1924 ?_
      refine V_lcmp hC dL_law_1925 ?_
      refine V_if_eq hC 1931 dL_law_1926 (by decide) (fun c285 => ?_) (fun c285 => ?_)
      · have h := ite_t c285 h
        refine V_sub [2, 3, 4, 5, 6] rfl ?_
        exact b_L_law_1931 hC hr hlk hX hd0 hlt hsc hbl hbA hgA hkk hk23 h
      · have h := ite_f c285 h
        refine V_iconst hC (0 : Int32) dL_law_1929 (by decide) ?_
        exact absurd h (by decide)
  · have h := ite_f c283 h
    refine V_iconst hC (0 : Int32) dL_law_1912 (by decide) ?_
    exact absurd h (by decide)
theorem b_L_law_1934 {xs : Nat → Int32} {nS : Nat} {k : Nat} {b : Nat} {d0 : Drawn} {k23 : Int32 → Mem → Option Int32} {x4 : Int32} {M : Mem} (hC : Cx p (s.setDrawn d0) m #[Value.ref b] c code RL 7 G) (hr : meth.sig.returnType = ret) (hlk : meth.locks = false) (hX : XF G (s.setDrawn d0)) (hd0 : s.drawn.sameBut d0 lw_cs) (hlt : l.stackTraces = false) (hsc : va_X b nS xs (s.setDrawn d0) (s.setDrawn d0).heap) (hbl : b < (s.setDrawn d0).heap.size) (hbA : ¬ gA G b) (hgA : ∀ q, gA G q → s.heap.size ≤ q) (hkk : k ≤ 512) (hk23 : ∀ (x4 : Int32) (M : Mem), k23 x4 M = some 1 → V p l e room_1 (s.setDrawn d0) m #[Value.ref b] below meth c 7 G (K0 + (k + 1)) (K1 + 6 * (k + 1)) (lw_Z below #[Value.ref b] s) 23 [(0, .ref b), (1, .ref (adr G 6 0)), (2, .ref (adr G 7 0)), (3, .ref (adr G 8 0)), (4, .int x4)] [] M) (h : B_L_law_1934 xs nS k23 x4 M = some 1) : V p l e room_1 (s.setDrawn d0) m #[Value.ref b] below meth c 7 G (K0 + k) (K1 + 6 * k) (lw_Z below #[Value.ref b] s) 1934 [(0, .ref b), (1, .ref (adr G 6 0)), (2, .ref (adr G 7 0)), (3, .ref (adr G 8 0)), (4, .int x4)] [] M := by
  refine V_aload_n hC dL_law_1934 rfl 1 rfl ?_
  refine V_cVr hC [] (c_X8_waiting (l := l) hC.2.2.2.2.2.2.2 rfl) kd_X8_waiting kv_X8_waiting gw_238 (r_s0_0).o rfl ⟨Nat.le_of_ble_eq_true rfl, Nat.le_of_ble_eq_true rfl⟩ rfl (Nat.le_of_ble_eq_true rfl) dL_law_1935 (law_rm hkk (by omega) (by omega)) rfl ?_
  refine V_aload_n hC dL_law_1938 rfl 2 rfl ?_
  obtain ⟨q288, e288, h⟩ := bind_some h
  refine V_cVr hC [] (c_X9_waiting (l := l) (rv := q288.1) (Mf := q288.2) hC.2.2.2.2.2.2.2 e288) kd_X9_waiting kv_X9_waiting gw_1657 (r_m0_0).o rfl ⟨Nat.le_of_ble_eq_true rfl, Nat.le_of_ble_eq_true rfl⟩ rfl (Nat.le_of_ble_eq_true rfl) dL_law_1939 (law_rm hkk (by omega) (by omega)) rfl ?_
  refine V_icmp_eq hC 2323 dL_law_1942 (by decide) (fun c289 => ?_) (fun c289 => ?_)
  · have h := ite_t c289 h
    refine V_widen (k := K0 + (k + 1)) (n := K1 + 6 * (k + 1)) (by omega) (by omega) ?_
    exact b_L_law_2323 hC hr hlk hX hd0 hlt hsc hbl hbA hgA hkk hk23 h
  · have h := ite_f c289 h
    refine V_iconst hC (0 : Int32) dL_law_1945 (by decide) ?_
    exact absurd h (by decide)
theorem b_L_law_2012 {xs : Nat → Int32} {nS : Nat} {k : Nat} {b : Nat} {d0 : Drawn} {k23 : Int32 → Mem → Option Int32} {x4 : Int32} {M : Mem} (hC : Cx p (s.setDrawn d0) m #[Value.ref b] c code RL 7 G) (hr : meth.sig.returnType = ret) (hlk : meth.locks = false) (hX : XF G (s.setDrawn d0)) (hd0 : s.drawn.sameBut d0 lw_cs) (hlt : l.stackTraces = false) (hsc : va_X b nS xs (s.setDrawn d0) (s.setDrawn d0).heap) (hbl : b < (s.setDrawn d0).heap.size) (hbA : ¬ gA G b) (hgA : ∀ q, gA G q → s.heap.size ≤ q) (hkk : k ≤ 512) (hk23 : ∀ (x4 : Int32) (M : Mem), k23 x4 M = some 1 → V p l e room_1 (s.setDrawn d0) m #[Value.ref b] below meth c 7 G (K0 + (k + 1)) (K1 + 6 * (k + 1)) (lw_Z below #[Value.ref b] s) 23 [(0, .ref b), (1, .ref (adr G 6 0)), (2, .ref (adr G 7 0)), (3, .ref (adr G 8 0)), (4, .int x4)] [] M) (h : B_L_law_2012 xs nS k23 x4 M = some 1) : V p l e room_1 (s.setDrawn d0) m #[Value.ref b] below meth c 7 G (K0 + k + 1) (K1 + 6 * k + 6) (lw_Z below #[Value.ref b] s) 2012 [(0, .ref b), (1, .ref (adr G 6 0)), (2, .ref (adr G 7 0)), (3, .ref (adr G 8 0)), (4, .int x4)] [] M := by
  refine V_goto hC 2323 dL_law_2012 (by decide) ?_
  refine V_widen (k := K0 + (k + 1)) (n := K1 + 6 * (k + 1)) (by omega) (by omega) ?_
  exact b_L_law_2323 hC hr hlk hX hd0 hlt hsc hbl hbA hgA hkk hk23 h
theorem b_L_law_1947 {xs : Nat → Int32} {nS : Nat} {k : Nat} {b : Nat} {d0 : Drawn} {k23 : Int32 → Mem → Option Int32} {x4 : Int32} {M : Mem} (hC : Cx p (s.setDrawn d0) m #[Value.ref b] c code RL 7 G) (hr : meth.sig.returnType = ret) (hlk : meth.locks = false) (hX : XF G (s.setDrawn d0)) (hd0 : s.drawn.sameBut d0 lw_cs) (hlt : l.stackTraces = false) (hsc : va_X b nS xs (s.setDrawn d0) (s.setDrawn d0).heap) (hbl : b < (s.setDrawn d0).heap.size) (hbA : ¬ gA G b) (hgA : ∀ q, gA G q → s.heap.size ≤ q) (hkk : k ≤ 512) (hk23 : ∀ (x4 : Int32) (M : Mem), k23 x4 M = some 1 → V p l e room_1 (s.setDrawn d0) m #[Value.ref b] below meth c 7 G (K0 + (k + 1)) (K1 + 6 * (k + 1)) (lw_Z below #[Value.ref b] s) 23 [(0, .ref b), (1, .ref (adr G 6 0)), (2, .ref (adr G 7 0)), (3, .ref (adr G 8 0)), (4, .int x4)] [] M) (h : B_L_law_1947 xs nS k23 x4 M = some 1) : V p l e room_1 (s.setDrawn d0) m #[Value.ref b] below meth c 7 G (K0 + k) (K1 + 6 * k) (lw_Z below #[Value.ref b] s) 1947 [(0, .ref b), (1, .ref (adr G 6 0)), (2, .ref (adr G 7 0)), (3, .ref (adr G 8 0)), (4, .int x4)] [] M := by
  refine V_aload_n hC dL_law_1947 rfl 1 rfl ?_
  refine V_aload_n hC dL_law_1948 rfl 0 rfl ?_
  refine V_iload hC dL_law_1949 4 rfl ?_
  refine V_iconst hC (1 : Int32) dL_law_1951 (by decide) ?_
  refine V_iadd hC dL_law_1952 ?_
  obtain ⟨c291, h⟩ := ite_some h
  refine V_sld hC hsc hbl hbA c291 dL_law_1953 ?_
  refine V_aload_n hC dL_law_1954 rfl 0 rfl ?_
  refine V_iload hC dL_law_1955 4 rfl ?_
  refine V_iconst hC (2 : Int32) dL_law_1957 (by decide) ?_
  refine V_iadd hC dL_law_1958 ?_
  obtain ⟨c292, h⟩ := ite_some h
  refine V_sld hC hsc hbl hbA c292 dL_law_1959 ?_
  refine V_aload_n hC dL_law_1960 rfl 3 rfl ?_
  obtain ⟨q293, e293, h⟩ := bind_some h
  refine V_cW hC hX [.ref (adr G 6 0), .int (xs (cl (x4 + (1 : Int32)))), .int (xs (cl (x4 + (2 : Int32)))), .ref (adr G 8 0)] (c_L_waitingAt (l := l) (rv := q293.1) (Mf := q293.2) hlt hC.2.2.2.2.2.2.2 e293) kx_L_waitingAt gw_1166 gw_1165 ⟨Nat.le_of_ble_eq_true rfl, Nat.le_of_ble_eq_true rfl⟩ rfl (Nat.le_of_ble_eq_true rfl) dL_law_1961 (law_rm hkk (by omega) (by omega)) rfl ?_
  refine V_istore hC ([(5, .int q293.1), (0, .ref b), (1, .ref (adr G 6 0)), (2, .ref (adr G 7 0)), (3, .ref (adr G 8 0)), (4, .int x4)]) dL_law_1964 (by decide) rfl ?_
  refine V_aload_n hC dL_law_1966 rfl 3 rfl ?_
  refine V_aload_n hC dL_law_1967 rfl 1 rfl ?_
  refine V_iload hC dL_law_1968 5 rfl ?_
  refine V_iconst hC (1 : Int32) dL_law_1970 (by decide) ?_
  refine V_iadd hC dL_law_1971 ?_
  obtain ⟨c294, h⟩ := ite_some h
  refine V_sld hC hsc hbl hbA c294 dL_law_1972 ?_
  refine V_aload_n hC dL_law_1973 rfl 1 rfl ?_
  refine V_iload hC dL_law_1974 5 rfl ?_
  refine V_iconst hC (2 : Int32) dL_law_1976 (by decide) ?_
  refine V_iadd hC dL_law_1977 ?_
  obtain ⟨c295, h⟩ := ite_some h
  refine V_sld hC hsc hbl hbA c295 dL_law_1978 ?_
  obtain ⟨q296, e296, h⟩ := bind_some h
  refine V_cVr hC [.int (xs (cl (x4 + (1 : Int32)))), .int (xs (cl (x4 + (2 : Int32))))] (c_X9_waitingAt (l := l) (rv := q296.1) (Mf := q296.2) hC.2.2.2.2.2.2.2 e296) kd_X9_waitingAt kv_X9_waitingAt gw_1661 (r_m0_0).o rfl ⟨Nat.le_of_ble_eq_true rfl, Nat.le_of_ble_eq_true rfl⟩ rfl (Nat.le_of_ble_eq_true rfl) dL_law_1979 (law_rm hkk (by omega) (by omega)) rfl ?_
  refine V_istore hC ([(6, .int q296.1), (5, .int q293.1), (0, .ref b), (1, .ref (adr G 6 0)), (2, .ref (adr G 7 0)), (3, .ref (adr G 8 0)), (4, .int x4)]) dL_law_1982 (by decide) rfl ?_
  refine V_aload_n hC dL_law_1984 rfl 4 rfl ?_
  refine V_cVr hC [] (c_X9_thrown (l := l) hC.2.2.2.2.2.2.2 rfl) kd_X9_thrown kv_X9_thrown gw_1310 (r_m0_0).o rfl ⟨Nat.le_of_ble_eq_true rfl, Nat.le_of_ble_eq_true rfl⟩ rfl (Nat.le_of_ble_eq_true rfl) dL_law_1985 (law_rm hkk (by omega) (by omega)) rfl ?_
  refine V_iload hC dL_law_1988 1 rfl ?_
  refine V_icmp_eq hC 1995 dL_law_1990 (by decide) (fun c298 => ?_) (fun c298 => ?_)
  · have h := ite_t c298 h
    refine V_iload hC dL_law_1995 1 rfl ?_
    refine V_if_ne hC 2012 dL_law_1997 (by decide) (fun c299 => ?_) (fun c299 => ?_)
    · have h := ite_f c299 h
      refine V_sub [2, 3, 4, 5, 6] rfl ?_
      exact b_L_law_2012 hC hr hlk hX hd0 hlt hsc hbl hbA hgA hkk hk23 h
    · have h := ite_t c299 h
      refine V_aload_n hC dL_law_2000 rfl 5 rfl ?_
      refine V_iconst hC (0 : Int32) dL_law_2001 (by decide) ?_
      refine V_lald hC rfl dL_law_2002 ?_
      refine V_iload hC dL_law_2003 0 rfl ?_
      refine V_i2l hC dL_law_2005 ?_
      refine V_lcmp hC dL_law_2006 ?_
      refine V_if_eq hC 2012 dL_law_2007 (by decide) (fun c300 => ?_) (fun c300 => ?_)
      · have h := ite_t c300 h
        refine V_sub [2, 3, 4, 5, 6] rfl ?_
        exact b_L_law_2012 hC hr hlk hX hd0 hlt hsc hbl hbA hgA hkk hk23 h
      · have h := ite_f c300 h
        refine V_iconst hC (0 : Int32) dL_law_2010 (by decide) ?_
        exact absurd h (by decide)
  · have h := ite_f c298 h
    refine V_iconst hC (0 : Int32) dL_law_1993 (by decide) ?_
    exact absurd h (by decide)
theorem b_L_law_2068 {xs : Nat → Int32} {nS : Nat} {k : Nat} {b : Nat} {d0 : Drawn} {k23 : Int32 → Mem → Option Int32} {x4 : Int32} {M : Mem} (hC : Cx p (s.setDrawn d0) m #[Value.ref b] c code RL 7 G) (hr : meth.sig.returnType = ret) (hlk : meth.locks = false) (hX : XF G (s.setDrawn d0)) (hd0 : s.drawn.sameBut d0 lw_cs) (hlt : l.stackTraces = false) (hsc : va_X b nS xs (s.setDrawn d0) (s.setDrawn d0).heap) (hbl : b < (s.setDrawn d0).heap.size) (hbA : ¬ gA G b) (hgA : ∀ q, gA G q → s.heap.size ≤ q) (hkk : k ≤ 512) (hk23 : ∀ (x4 : Int32) (M : Mem), k23 x4 M = some 1 → V p l e room_1 (s.setDrawn d0) m #[Value.ref b] below meth c 7 G (K0 + (k + 1)) (K1 + 6 * (k + 1)) (lw_Z below #[Value.ref b] s) 23 [(0, .ref b), (1, .ref (adr G 6 0)), (2, .ref (adr G 7 0)), (3, .ref (adr G 8 0)), (4, .int x4)] [] M) (h : B_L_law_2068 xs nS k23 x4 M = some 1) : V p l e room_1 (s.setDrawn d0) m #[Value.ref b] below meth c 7 G (K0 + k + 1) (K1 + 6 * k + 6) (lw_Z below #[Value.ref b] s) 2068 [(0, .ref b), (1, .ref (adr G 6 0)), (2, .ref (adr G 7 0)), (3, .ref (adr G 8 0)), (4, .int x4)] [] M := by
  refine V_goto hC 2323 dL_law_2068 (by decide) ?_
  refine V_widen (k := K0 + (k + 1)) (n := K1 + 6 * (k + 1)) (by omega) (by omega) ?_
  exact b_L_law_2323 hC hr hlk hX hd0 hlt hsc hbl hbA hgA hkk hk23 h
theorem b_L_law_2015 {xs : Nat → Int32} {nS : Nat} {k : Nat} {b : Nat} {d0 : Drawn} {k23 : Int32 → Mem → Option Int32} {x4 : Int32} {M : Mem} (hC : Cx p (s.setDrawn d0) m #[Value.ref b] c code RL 7 G) (hr : meth.sig.returnType = ret) (hlk : meth.locks = false) (hX : XF G (s.setDrawn d0)) (hd0 : s.drawn.sameBut d0 lw_cs) (hlt : l.stackTraces = false) (hsc : va_X b nS xs (s.setDrawn d0) (s.setDrawn d0).heap) (hbl : b < (s.setDrawn d0).heap.size) (hbA : ¬ gA G b) (hgA : ∀ q, gA G q → s.heap.size ≤ q) (hkk : k ≤ 512) (hk23 : ∀ (x4 : Int32) (M : Mem), k23 x4 M = some 1 → V p l e room_1 (s.setDrawn d0) m #[Value.ref b] below meth c 7 G (K0 + (k + 1)) (K1 + 6 * (k + 1)) (lw_Z below #[Value.ref b] s) 23 [(0, .ref b), (1, .ref (adr G 6 0)), (2, .ref (adr G 7 0)), (3, .ref (adr G 8 0)), (4, .int x4)] [] M) (h : B_L_law_2015 xs nS k23 x4 M = some 1) : V p l e room_1 (s.setDrawn d0) m #[Value.ref b] below meth c 7 G (K0 + k) (K1 + 6 * k) (lw_Z below #[Value.ref b] s) 2015 [(0, .ref b), (1, .ref (adr G 6 0)), (2, .ref (adr G 7 0)), (3, .ref (adr G 8 0)), (4, .int x4)] [] M := by
  refine V_aload_n hC dL_law_2015 rfl 1 rfl ?_
  refine V_aload_n hC dL_law_2016 rfl 0 rfl ?_
  refine V_iload hC dL_law_2017 4 rfl ?_
  refine V_iconst hC (1 : Int32) dL_law_2019 (by decide) ?_
  refine V_iadd hC dL_law_2020 ?_
  obtain ⟨c302, h⟩ := ite_some h
  refine V_sld hC hsc hbl hbA c302 dL_law_2021 ?_
  refine V_aload_n hC dL_law_2022 rfl 3 rfl ?_
  obtain ⟨q303, e303, h⟩ := bind_some h
  refine V_cW hC hX [.ref (adr G 6 0), .int (xs (cl (x4 + (1 : Int32)))), .ref (adr G 8 0)] (c_L_pass (l := l) (rv := q303.1) (Mf := q303.2) hlt hC.2.2.2.2.2.2.2 e303) kx_L_pass gw_1174 gw_1173 ⟨Nat.le_of_ble_eq_true rfl, Nat.le_of_ble_eq_true rfl⟩ rfl (Nat.le_of_ble_eq_true rfl) dL_law_2023 (law_rm hkk (by omega) (by omega)) rfl ?_
  refine V_istore hC ([(5, .int q303.1), (0, .ref b), (1, .ref (adr G 6 0)), (2, .ref (adr G 7 0)), (3, .ref (adr G 8 0)), (4, .int x4)]) dL_law_2026 (by decide) rfl ?_
  refine V_aload_n hC dL_law_2028 rfl 3 rfl ?_
  refine V_aload_n hC dL_law_2029 rfl 1 rfl ?_
  refine V_iload hC dL_law_2030 5 rfl ?_
  refine V_iconst hC (1 : Int32) dL_law_2032 (by decide) ?_
  refine V_iadd hC dL_law_2033 ?_
  obtain ⟨c304, h⟩ := ite_some h
  refine V_sld hC hsc hbl hbA c304 dL_law_2034 ?_
  obtain ⟨q305, e305, h⟩ := bind_some h
  refine V_cVr hC [.int (xs (cl (x4 + (1 : Int32))))] (c_X9_pass (l := l) (rv := q305.1) (Mf := q305.2) hC.2.2.2.2.2.2.2 e305) kd_X9_pass kv_X9_pass gw_1665 (r_m0_0).o rfl ⟨Nat.le_of_ble_eq_true rfl, Nat.le_of_ble_eq_true rfl⟩ rfl (Nat.le_of_ble_eq_true rfl) dL_law_2035 (law_rm hkk (by omega) (by omega)) rfl ?_
  refine V_istore hC ([(6, .int q305.1), (5, .int q303.1), (0, .ref b), (1, .ref (adr G 6 0)), (2, .ref (adr G 7 0)), (3, .ref (adr G 8 0)), (4, .int x4)]) dL_law_2038 (by decide) rfl ?_
  refine V_aload_n hC dL_law_2040 rfl 4 rfl ?_
  refine V_cVr hC [] (c_X9_thrown (l := l) hC.2.2.2.2.2.2.2 rfl) kd_X9_thrown kv_X9_thrown gw_1310 (r_m0_0).o rfl ⟨Nat.le_of_ble_eq_true rfl, Nat.le_of_ble_eq_true rfl⟩ rfl (Nat.le_of_ble_eq_true rfl) dL_law_2041 (law_rm hkk (by omega) (by omega)) rfl ?_
  refine V_iload hC dL_law_2044 1 rfl ?_
  refine V_icmp_eq hC 2051 dL_law_2046 (by decide) (fun c307 => ?_) (fun c307 => ?_)
  · have h := ite_t c307 h
    refine V_iload hC dL_law_2051 1 rfl ?_
    refine V_if_ne hC 2068 dL_law_2053 (by decide) (fun c308 => ?_) (fun c308 => ?_)
    · have h := ite_f c308 h
      refine V_sub [2, 3, 4, 5, 6] rfl ?_
      exact b_L_law_2068 hC hr hlk hX hd0 hlt hsc hbl hbA hgA hkk hk23 h
    · have h := ite_t c308 h
      refine V_aload_n hC dL_law_2056 rfl 5 rfl ?_
      refine V_iconst hC (0 : Int32) dL_law_2057 (by decide) ?_
      refine V_lald hC rfl dL_law_2058 ?_
      refine V_iload hC dL_law_2059 0 rfl ?_
      refine V_i2l hC dL_law_2061 ?_
      refine V_lcmp hC dL_law_2062 ?_
      refine V_if_eq hC 2068 dL_law_2063 (by decide) (fun c309 => ?_) (fun c309 => ?_)
      · have h := ite_t c309 h
        refine V_sub [2, 3, 4, 5, 6] rfl ?_
        exact b_L_law_2068 hC hr hlk hX hd0 hlt hsc hbl hbA hgA hkk hk23 h
      · have h := ite_f c309 h
        refine V_iconst hC (0 : Int32) dL_law_2066 (by decide) ?_
        exact absurd h (by decide)
  · have h := ite_f c307 h
    refine V_iconst hC (0 : Int32) dL_law_2049 (by decide) ?_
    exact absurd h (by decide)
theorem b_L_law_2124 {xs : Nat → Int32} {nS : Nat} {k : Nat} {b : Nat} {d0 : Drawn} {k23 : Int32 → Mem → Option Int32} {x4 : Int32} {M : Mem} (hC : Cx p (s.setDrawn d0) m #[Value.ref b] c code RL 7 G) (hr : meth.sig.returnType = ret) (hlk : meth.locks = false) (hX : XF G (s.setDrawn d0)) (hd0 : s.drawn.sameBut d0 lw_cs) (hlt : l.stackTraces = false) (hsc : va_X b nS xs (s.setDrawn d0) (s.setDrawn d0).heap) (hbl : b < (s.setDrawn d0).heap.size) (hbA : ¬ gA G b) (hgA : ∀ q, gA G q → s.heap.size ≤ q) (hkk : k ≤ 512) (hk23 : ∀ (x4 : Int32) (M : Mem), k23 x4 M = some 1 → V p l e room_1 (s.setDrawn d0) m #[Value.ref b] below meth c 7 G (K0 + (k + 1)) (K1 + 6 * (k + 1)) (lw_Z below #[Value.ref b] s) 23 [(0, .ref b), (1, .ref (adr G 6 0)), (2, .ref (adr G 7 0)), (3, .ref (adr G 8 0)), (4, .int x4)] [] M) (h : B_L_law_2124 xs nS k23 x4 M = some 1) : V p l e room_1 (s.setDrawn d0) m #[Value.ref b] below meth c 7 G (K0 + k + 1) (K1 + 6 * k + 6) (lw_Z below #[Value.ref b] s) 2124 [(0, .ref b), (1, .ref (adr G 6 0)), (2, .ref (adr G 7 0)), (3, .ref (adr G 8 0)), (4, .int x4)] [] M := by
  refine V_goto hC 2323 dL_law_2124 (by decide) ?_
  refine V_widen (k := K0 + (k + 1)) (n := K1 + 6 * (k + 1)) (by omega) (by omega) ?_
  exact b_L_law_2323 hC hr hlk hX hd0 hlt hsc hbl hbA hgA hkk hk23 h
theorem b_L_law_2071 {xs : Nat → Int32} {nS : Nat} {k : Nat} {b : Nat} {d0 : Drawn} {k23 : Int32 → Mem → Option Int32} {x4 : Int32} {M : Mem} (hC : Cx p (s.setDrawn d0) m #[Value.ref b] c code RL 7 G) (hr : meth.sig.returnType = ret) (hlk : meth.locks = false) (hX : XF G (s.setDrawn d0)) (hd0 : s.drawn.sameBut d0 lw_cs) (hlt : l.stackTraces = false) (hsc : va_X b nS xs (s.setDrawn d0) (s.setDrawn d0).heap) (hbl : b < (s.setDrawn d0).heap.size) (hbA : ¬ gA G b) (hgA : ∀ q, gA G q → s.heap.size ≤ q) (hkk : k ≤ 512) (hk23 : ∀ (x4 : Int32) (M : Mem), k23 x4 M = some 1 → V p l e room_1 (s.setDrawn d0) m #[Value.ref b] below meth c 7 G (K0 + (k + 1)) (K1 + 6 * (k + 1)) (lw_Z below #[Value.ref b] s) 23 [(0, .ref b), (1, .ref (adr G 6 0)), (2, .ref (adr G 7 0)), (3, .ref (adr G 8 0)), (4, .int x4)] [] M) (h : B_L_law_2071 xs nS k23 x4 M = some 1) : V p l e room_1 (s.setDrawn d0) m #[Value.ref b] below meth c 7 G (K0 + k) (K1 + 6 * k) (lw_Z below #[Value.ref b] s) 2071 [(0, .ref b), (1, .ref (adr G 6 0)), (2, .ref (adr G 7 0)), (3, .ref (adr G 8 0)), (4, .int x4)] [] M := by
  refine V_aload_n hC dL_law_2071 rfl 1 rfl ?_
  refine V_aload_n hC dL_law_2072 rfl 0 rfl ?_
  refine V_iload hC dL_law_2073 4 rfl ?_
  refine V_iconst hC (1 : Int32) dL_law_2075 (by decide) ?_
  refine V_iadd hC dL_law_2076 ?_
  obtain ⟨c311, h⟩ := ite_some h
  refine V_sld hC hsc hbl hbA c311 dL_law_2077 ?_
  refine V_aload_n hC dL_law_2078 rfl 3 rfl ?_
  obtain ⟨q312, e312, h⟩ := bind_some h
  refine V_cW hC hX [.ref (adr G 6 0), .int (xs (cl (x4 + (1 : Int32)))), .ref (adr G 8 0)] (c_L_useBits (l := l) (rv := q312.1) (Mf := q312.2) hlt hC.2.2.2.2.2.2.2 e312) kx_L_useBits gw_1181 gw_1180 ⟨Nat.le_of_ble_eq_true rfl, Nat.le_of_ble_eq_true rfl⟩ rfl (Nat.le_of_ble_eq_true rfl) dL_law_2079 (law_rm hkk (by omega) (by omega)) rfl ?_
  refine V_istore hC ([(5, .int q312.1), (0, .ref b), (1, .ref (adr G 6 0)), (2, .ref (adr G 7 0)), (3, .ref (adr G 8 0)), (4, .int x4)]) dL_law_2082 (by decide) rfl ?_
  refine V_aload_n hC dL_law_2084 rfl 3 rfl ?_
  refine V_aload_n hC dL_law_2085 rfl 1 rfl ?_
  refine V_iload hC dL_law_2086 5 rfl ?_
  refine V_iconst hC (1 : Int32) dL_law_2088 (by decide) ?_
  refine V_iadd hC dL_law_2089 ?_
  obtain ⟨c313, h⟩ := ite_some h
  refine V_sld hC hsc hbl hbA c313 dL_law_2090 ?_
  obtain ⟨q314, e314, h⟩ := bind_some h
  refine V_cVr hC [.int (xs (cl (x4 + (1 : Int32))))] (c_X9_useBits (l := l) (rv := q314.1) (Mf := q314.2) hC.2.2.2.2.2.2.2 e314) kd_X9_useBits kv_X9_useBits gw_1673 (r_m0_0).o rfl ⟨Nat.le_of_ble_eq_true rfl, Nat.le_of_ble_eq_true rfl⟩ rfl (Nat.le_of_ble_eq_true rfl) dL_law_2091 (law_rm hkk (by omega) (by omega)) rfl ?_
  refine V_istore hC ([(6, .int q314.1), (5, .int q312.1), (0, .ref b), (1, .ref (adr G 6 0)), (2, .ref (adr G 7 0)), (3, .ref (adr G 8 0)), (4, .int x4)]) dL_law_2094 (by decide) rfl ?_
  refine V_aload_n hC dL_law_2096 rfl 4 rfl ?_
  refine V_cVr hC [] (c_X9_thrown (l := l) hC.2.2.2.2.2.2.2 rfl) kd_X9_thrown kv_X9_thrown gw_1310 (r_m0_0).o rfl ⟨Nat.le_of_ble_eq_true rfl, Nat.le_of_ble_eq_true rfl⟩ rfl (Nat.le_of_ble_eq_true rfl) dL_law_2097 (law_rm hkk (by omega) (by omega)) rfl ?_
  refine V_iload hC dL_law_2100 1 rfl ?_
  refine V_icmp_eq hC 2107 dL_law_2102 (by decide) (fun c316 => ?_) (fun c316 => ?_)
  · have h := ite_t c316 h
    refine V_iload hC dL_law_2107 1 rfl ?_
    refine V_if_ne hC 2124 dL_law_2109 (by decide) (fun c317 => ?_) (fun c317 => ?_)
    · have h := ite_f c317 h
      refine V_sub [2, 3, 4, 5, 6] rfl ?_
      exact b_L_law_2124 hC hr hlk hX hd0 hlt hsc hbl hbA hgA hkk hk23 h
    · have h := ite_t c317 h
      refine V_aload_n hC dL_law_2112 rfl 5 rfl ?_
      refine V_iconst hC (0 : Int32) dL_law_2113 (by decide) ?_
      refine V_lald hC rfl dL_law_2114 ?_
      refine V_iload hC dL_law_2115 0 rfl ?_
      refine V_i2l hC dL_law_2117 ?_
      refine V_lcmp hC dL_law_2118 ?_
      refine V_if_eq hC 2124 dL_law_2119 (by decide) (fun c318 => ?_) (fun c318 => ?_)
      · have h := ite_t c318 h
        refine V_sub [2, 3, 4, 5, 6] rfl ?_
        exact b_L_law_2124 hC hr hlk hX hd0 hlt hsc hbl hbA hgA hkk hk23 h
      · have h := ite_f c318 h
        refine V_iconst hC (0 : Int32) dL_law_2122 (by decide) ?_
        exact absurd h (by decide)
  · have h := ite_f c316 h
    refine V_iconst hC (0 : Int32) dL_law_2105 (by decide) ?_
    exact absurd h (by decide)
theorem b_L_law_2180 {xs : Nat → Int32} {nS : Nat} {k : Nat} {b : Nat} {d0 : Drawn} {k23 : Int32 → Mem → Option Int32} {x4 : Int32} {M : Mem} (hC : Cx p (s.setDrawn d0) m #[Value.ref b] c code RL 7 G) (hr : meth.sig.returnType = ret) (hlk : meth.locks = false) (hX : XF G (s.setDrawn d0)) (hd0 : s.drawn.sameBut d0 lw_cs) (hlt : l.stackTraces = false) (hsc : va_X b nS xs (s.setDrawn d0) (s.setDrawn d0).heap) (hbl : b < (s.setDrawn d0).heap.size) (hbA : ¬ gA G b) (hgA : ∀ q, gA G q → s.heap.size ≤ q) (hkk : k ≤ 512) (hk23 : ∀ (x4 : Int32) (M : Mem), k23 x4 M = some 1 → V p l e room_1 (s.setDrawn d0) m #[Value.ref b] below meth c 7 G (K0 + (k + 1)) (K1 + 6 * (k + 1)) (lw_Z below #[Value.ref b] s) 23 [(0, .ref b), (1, .ref (adr G 6 0)), (2, .ref (adr G 7 0)), (3, .ref (adr G 8 0)), (4, .int x4)] [] M) (h : B_L_law_2180 xs nS k23 x4 M = some 1) : V p l e room_1 (s.setDrawn d0) m #[Value.ref b] below meth c 7 G (K0 + k + 1) (K1 + 6 * k + 6) (lw_Z below #[Value.ref b] s) 2180 [(0, .ref b), (1, .ref (adr G 6 0)), (2, .ref (adr G 7 0)), (3, .ref (adr G 8 0)), (4, .int x4)] [] M := by
  refine V_goto hC 2323 dL_law_2180 (by decide) ?_
  refine V_widen (k := K0 + (k + 1)) (n := K1 + 6 * (k + 1)) (by omega) (by omega) ?_
  exact b_L_law_2323 hC hr hlk hX hd0 hlt hsc hbl hbA hgA hkk hk23 h
theorem b_L_law_2127 {xs : Nat → Int32} {nS : Nat} {k : Nat} {b : Nat} {d0 : Drawn} {k23 : Int32 → Mem → Option Int32} {x4 : Int32} {M : Mem} (hC : Cx p (s.setDrawn d0) m #[Value.ref b] c code RL 7 G) (hr : meth.sig.returnType = ret) (hlk : meth.locks = false) (hX : XF G (s.setDrawn d0)) (hd0 : s.drawn.sameBut d0 lw_cs) (hlt : l.stackTraces = false) (hsc : va_X b nS xs (s.setDrawn d0) (s.setDrawn d0).heap) (hbl : b < (s.setDrawn d0).heap.size) (hbA : ¬ gA G b) (hgA : ∀ q, gA G q → s.heap.size ≤ q) (hkk : k ≤ 512) (hk23 : ∀ (x4 : Int32) (M : Mem), k23 x4 M = some 1 → V p l e room_1 (s.setDrawn d0) m #[Value.ref b] below meth c 7 G (K0 + (k + 1)) (K1 + 6 * (k + 1)) (lw_Z below #[Value.ref b] s) 23 [(0, .ref b), (1, .ref (adr G 6 0)), (2, .ref (adr G 7 0)), (3, .ref (adr G 8 0)), (4, .int x4)] [] M) (h : B_L_law_2127 xs nS k23 x4 M = some 1) : V p l e room_1 (s.setDrawn d0) m #[Value.ref b] below meth c 7 G (K0 + k) (K1 + 6 * k) (lw_Z below #[Value.ref b] s) 2127 [(0, .ref b), (1, .ref (adr G 6 0)), (2, .ref (adr G 7 0)), (3, .ref (adr G 8 0)), (4, .int x4)] [] M := by
  refine V_aload_n hC dL_law_2127 rfl 1 rfl ?_
  refine V_aload_n hC dL_law_2128 rfl 0 rfl ?_
  refine V_iload hC dL_law_2129 4 rfl ?_
  refine V_iconst hC (1 : Int32) dL_law_2131 (by decide) ?_
  refine V_iadd hC dL_law_2132 ?_
  obtain ⟨c320, h⟩ := ite_some h
  refine V_sld hC hsc hbl hbA c320 dL_law_2133 ?_
  refine V_aload_n hC dL_law_2134 rfl 3 rfl ?_
  obtain ⟨q321, e321, h⟩ := bind_some h
  refine V_cW hC hX [.ref (adr G 6 0), .int (xs (cl (x4 + (1 : Int32)))), .ref (adr G 8 0)] (c_L_append (l := l) (rv := q321.1) (Mf := q321.2) hlt hC.2.2.2.2.2.2.2 e321) kx_L_append gw_1198 gw_1197 ⟨Nat.le_of_ble_eq_true rfl, Nat.le_of_ble_eq_true rfl⟩ rfl (Nat.le_of_ble_eq_true rfl) dL_law_2135 (law_rm hkk (by omega) (by omega)) rfl ?_
  refine V_istore hC ([(5, .int q321.1), (0, .ref b), (1, .ref (adr G 6 0)), (2, .ref (adr G 7 0)), (3, .ref (adr G 8 0)), (4, .int x4)]) dL_law_2138 (by decide) rfl ?_
  refine V_aload_n hC dL_law_2140 rfl 3 rfl ?_
  refine V_aload_n hC dL_law_2141 rfl 1 rfl ?_
  refine V_iload hC dL_law_2142 5 rfl ?_
  refine V_iconst hC (1 : Int32) dL_law_2144 (by decide) ?_
  refine V_iadd hC dL_law_2145 ?_
  obtain ⟨c322, h⟩ := ite_some h
  refine V_sld hC hsc hbl hbA c322 dL_law_2146 ?_
  obtain ⟨q323, e323, h⟩ := bind_some h
  refine V_cVr hC [.int (xs (cl (x4 + (1 : Int32))))] (c_X9_append (l := l) (rv := q323.1) (Mf := q323.2) hC.2.2.2.2.2.2.2 e323) kd_X9_append kv_X9_append gw_1687 (r_m0_0).o rfl ⟨Nat.le_of_ble_eq_true rfl, Nat.le_of_ble_eq_true rfl⟩ rfl (Nat.le_of_ble_eq_true rfl) dL_law_2147 (law_rm hkk (by omega) (by omega)) rfl ?_
  refine V_istore hC ([(6, .int q323.1), (5, .int q321.1), (0, .ref b), (1, .ref (adr G 6 0)), (2, .ref (adr G 7 0)), (3, .ref (adr G 8 0)), (4, .int x4)]) dL_law_2150 (by decide) rfl ?_
  refine V_aload_n hC dL_law_2152 rfl 4 rfl ?_
  refine V_cVr hC [] (c_X9_thrown (l := l) hC.2.2.2.2.2.2.2 rfl) kd_X9_thrown kv_X9_thrown gw_1310 (r_m0_0).o rfl ⟨Nat.le_of_ble_eq_true rfl, Nat.le_of_ble_eq_true rfl⟩ rfl (Nat.le_of_ble_eq_true rfl) dL_law_2153 (law_rm hkk (by omega) (by omega)) rfl ?_
  refine V_iload hC dL_law_2156 1 rfl ?_
  refine V_icmp_eq hC 2163 dL_law_2158 (by decide) (fun c325 => ?_) (fun c325 => ?_)
  · have h := ite_t c325 h
    refine V_iload hC dL_law_2163 1 rfl ?_
    refine V_if_ne hC 2180 dL_law_2165 (by decide) (fun c326 => ?_) (fun c326 => ?_)
    · have h := ite_f c326 h
      refine V_sub [2, 3, 4, 5, 6] rfl ?_
      exact b_L_law_2180 hC hr hlk hX hd0 hlt hsc hbl hbA hgA hkk hk23 h
    · have h := ite_t c326 h
      refine V_aload_n hC dL_law_2168 rfl 5 rfl ?_
      refine V_iconst hC (0 : Int32) dL_law_2169 (by decide) ?_
      refine V_lald hC rfl dL_law_2170 ?_
      refine V_iload hC dL_law_2171 0 rfl ?_
      refine V_i2l hC dL_law_2173 ?_
      refine V_lcmp hC dL_law_2174 ?_
      refine V_if_eq hC 2180 dL_law_2175 (by decide) (fun c327 => ?_) (fun c327 => ?_)
      · have h := ite_t c327 h
        refine V_sub [2, 3, 4, 5, 6] rfl ?_
        exact b_L_law_2180 hC hr hlk hX hd0 hlt hsc hbl hbA hgA hkk hk23 h
      · have h := ite_f c327 h
        refine V_iconst hC (0 : Int32) dL_law_2178 (by decide) ?_
        exact absurd h (by decide)
  · have h := ite_f c325 h
    refine V_iconst hC (0 : Int32) dL_law_2161 (by decide) ?_
    exact absurd h (by decide)
theorem b_L_law_2183 {xs : Nat → Int32} {nS : Nat} {k : Nat} {b : Nat} {d0 : Drawn} {k23 : Int32 → Mem → Option Int32} {x4 : Int32} {M : Mem} (hC : Cx p (s.setDrawn d0) m #[Value.ref b] c code RL 7 G) (hr : meth.sig.returnType = ret) (hlk : meth.locks = false) (hX : XF G (s.setDrawn d0)) (hd0 : s.drawn.sameBut d0 lw_cs) (hlt : l.stackTraces = false) (hsc : va_X b nS xs (s.setDrawn d0) (s.setDrawn d0).heap) (hbl : b < (s.setDrawn d0).heap.size) (hbA : ¬ gA G b) (hgA : ∀ q, gA G q → s.heap.size ≤ q) (hkk : k ≤ 512) (hk23 : ∀ (x4 : Int32) (M : Mem), k23 x4 M = some 1 → V p l e room_1 (s.setDrawn d0) m #[Value.ref b] below meth c 7 G (K0 + (k + 1)) (K1 + 6 * (k + 1)) (lw_Z below #[Value.ref b] s) 23 [(0, .ref b), (1, .ref (adr G 6 0)), (2, .ref (adr G 7 0)), (3, .ref (adr G 8 0)), (4, .int x4)] [] M) (h : B_L_law_2183 xs nS k23 x4 M = some 1) : V p l e room_1 (s.setDrawn d0) m #[Value.ref b] below meth c 7 G (K0 + k) (K1 + 6 * k) (lw_Z below #[Value.ref b] s) 2183 [(0, .ref b), (1, .ref (adr G 6 0)), (2, .ref (adr G 7 0)), (3, .ref (adr G 8 0)), (4, .int x4)] [] M := by
  refine V_aload_n hC dL_law_2183 rfl 1 rfl ?_
  obtain ⟨q329, e329, h⟩ := bind_some h
  refine V_cVr hC [] (c_X8_clearText (l := l) (rv := q329.1) (Mf := q329.2) hC.2.2.2.2.2.2.2 e329) kd_X8_clearText kv_X8_clearText gw_242 (r_s0_0).o rfl ⟨Nat.le_of_ble_eq_true rfl, Nat.le_of_ble_eq_true rfl⟩ rfl (Nat.le_of_ble_eq_true rfl) dL_law_2184 (law_rm hkk (by omega) (by omega)) rfl ?_
  refine V_aload_n hC dL_law_2187 rfl 2 rfl ?_
  obtain ⟨q330, e330, h⟩ := bind_some h
  refine V_cVr hC [] (c_X9_clearText (l := l) (rv := q330.1) (Mf := q330.2) hC.2.2.2.2.2.2.2 e330) kd_X9_clearText kv_X9_clearText gw_1691 (r_m0_0).o rfl ⟨Nat.le_of_ble_eq_true rfl, Nat.le_of_ble_eq_true rfl⟩ rfl (Nat.le_of_ble_eq_true rfl) dL_law_2188 (law_rm hkk (by omega) (by omega)) rfl ?_
  refine V_icmp_eq hC 2323 dL_law_2191 (by decide) (fun c331 => ?_) (fun c331 => ?_)
  · have h := ite_t c331 h
    refine V_widen (k := K0 + (k + 1)) (n := K1 + 6 * (k + 1)) (by omega) (by omega) ?_
    exact b_L_law_2323 hC hr hlk hX hd0 hlt hsc hbl hbA hgA hkk hk23 h
  · have h := ite_f c331 h
    refine V_iconst hC (0 : Int32) dL_law_2194 (by decide) ?_
    exact absurd h (by decide)
theorem b_L_law_2196 {xs : Nat → Int32} {nS : Nat} {k : Nat} {b : Nat} {d0 : Drawn} {k23 : Int32 → Mem → Option Int32} {x4 : Int32} {M : Mem} (hC : Cx p (s.setDrawn d0) m #[Value.ref b] c code RL 7 G) (hr : meth.sig.returnType = ret) (hlk : meth.locks = false) (hX : XF G (s.setDrawn d0)) (hd0 : s.drawn.sameBut d0 lw_cs) (hlt : l.stackTraces = false) (hsc : va_X b nS xs (s.setDrawn d0) (s.setDrawn d0).heap) (hbl : b < (s.setDrawn d0).heap.size) (hbA : ¬ gA G b) (hgA : ∀ q, gA G q → s.heap.size ≤ q) (hkk : k ≤ 512) (hk23 : ∀ (x4 : Int32) (M : Mem), k23 x4 M = some 1 → V p l e room_1 (s.setDrawn d0) m #[Value.ref b] below meth c 7 G (K0 + (k + 1)) (K1 + 6 * (k + 1)) (lw_Z below #[Value.ref b] s) 23 [(0, .ref b), (1, .ref (adr G 6 0)), (2, .ref (adr G 7 0)), (3, .ref (adr G 8 0)), (4, .int x4)] [] M) (h : B_L_law_2196 xs nS k23 x4 M = some 1) : V p l e room_1 (s.setDrawn d0) m #[Value.ref b] below meth c 7 G (K0 + k) (K1 + 6 * k) (lw_Z below #[Value.ref b] s) 2196 [(0, .ref b), (1, .ref (adr G 6 0)), (2, .ref (adr G 7 0)), (3, .ref (adr G 8 0)), (4, .int x4)] [] M := by
  refine V_aload_n hC dL_law_2196 rfl 1 rfl ?_
  obtain ⟨q333, e333, h⟩ := bind_some h
  refine V_cVr hC [] (c_X8_carryOut (l := l) (rv := q333.1) (Mf := q333.2) hC.2.2.2.2.2.2.2 e333) kd_X8_carryOut kv_X8_carryOut gw_246 (r_s0_0).o rfl ⟨Nat.le_of_ble_eq_true rfl, Nat.le_of_ble_eq_true rfl⟩ rfl (Nat.le_of_ble_eq_true rfl) dL_law_2197 (law_rm hkk (by omega) (by omega)) rfl ?_
  refine V_aload_n hC dL_law_2200 rfl 2 rfl ?_
  obtain ⟨q334, e334, h⟩ := bind_some h
  refine V_cVr hC [] (c_X9_carryOut (l := l) (rv := q334.1) (Mf := q334.2) hC.2.2.2.2.2.2.2 e334) kd_X9_carryOut kv_X9_carryOut gw_1695 (r_m0_0).o rfl ⟨Nat.le_of_ble_eq_true rfl, Nat.le_of_ble_eq_true rfl⟩ rfl (Nat.le_of_ble_eq_true rfl) dL_law_2201 (law_rm hkk (by omega) (by omega)) rfl ?_
  refine V_icmp_eq hC 2323 dL_law_2204 (by decide) (fun c335 => ?_) (fun c335 => ?_)
  · have h := ite_t c335 h
    refine V_widen (k := K0 + (k + 1)) (n := K1 + 6 * (k + 1)) (by omega) (by omega) ?_
    exact b_L_law_2323 hC hr hlk hX hd0 hlt hsc hbl hbA hgA hkk hk23 h
  · have h := ite_f c335 h
    refine V_iconst hC (0 : Int32) dL_law_2207 (by decide) ?_
    exact absurd h (by decide)
theorem b_L_law_2262 {xs : Nat → Int32} {nS : Nat} {k : Nat} {b : Nat} {d0 : Drawn} {k23 : Int32 → Mem → Option Int32} {x4 : Int32} {M : Mem} (hC : Cx p (s.setDrawn d0) m #[Value.ref b] c code RL 7 G) (hr : meth.sig.returnType = ret) (hlk : meth.locks = false) (hX : XF G (s.setDrawn d0)) (hd0 : s.drawn.sameBut d0 lw_cs) (hlt : l.stackTraces = false) (hsc : va_X b nS xs (s.setDrawn d0) (s.setDrawn d0).heap) (hbl : b < (s.setDrawn d0).heap.size) (hbA : ¬ gA G b) (hgA : ∀ q, gA G q → s.heap.size ≤ q) (hkk : k ≤ 512) (hk23 : ∀ (x4 : Int32) (M : Mem), k23 x4 M = some 1 → V p l e room_1 (s.setDrawn d0) m #[Value.ref b] below meth c 7 G (K0 + (k + 1)) (K1 + 6 * (k + 1)) (lw_Z below #[Value.ref b] s) 23 [(0, .ref b), (1, .ref (adr G 6 0)), (2, .ref (adr G 7 0)), (3, .ref (adr G 8 0)), (4, .int x4)] [] M) (h : B_L_law_2262 xs nS k23 x4 M = some 1) : V p l e room_1 (s.setDrawn d0) m #[Value.ref b] below meth c 7 G (K0 + k + 1) (K1 + 6 * k + 6) (lw_Z below #[Value.ref b] s) 2262 [(0, .ref b), (1, .ref (adr G 6 0)), (2, .ref (adr G 7 0)), (3, .ref (adr G 8 0)), (4, .int x4)] [] M := by
  refine V_goto hC 2323 dL_law_2262 (by decide) ?_
  refine V_widen (k := K0 + (k + 1)) (n := K1 + 6 * (k + 1)) (by omega) (by omega) ?_
  exact b_L_law_2323 hC hr hlk hX hd0 hlt hsc hbl hbA hgA hkk hk23 h
theorem b_L_law_2209 {xs : Nat → Int32} {nS : Nat} {k : Nat} {b : Nat} {d0 : Drawn} {k23 : Int32 → Mem → Option Int32} {x4 : Int32} {M : Mem} (hC : Cx p (s.setDrawn d0) m #[Value.ref b] c code RL 7 G) (hr : meth.sig.returnType = ret) (hlk : meth.locks = false) (hX : XF G (s.setDrawn d0)) (hd0 : s.drawn.sameBut d0 lw_cs) (hlt : l.stackTraces = false) (hsc : va_X b nS xs (s.setDrawn d0) (s.setDrawn d0).heap) (hbl : b < (s.setDrawn d0).heap.size) (hbA : ¬ gA G b) (hgA : ∀ q, gA G q → s.heap.size ≤ q) (hkk : k ≤ 512) (hk23 : ∀ (x4 : Int32) (M : Mem), k23 x4 M = some 1 → V p l e room_1 (s.setDrawn d0) m #[Value.ref b] below meth c 7 G (K0 + (k + 1)) (K1 + 6 * (k + 1)) (lw_Z below #[Value.ref b] s) 23 [(0, .ref b), (1, .ref (adr G 6 0)), (2, .ref (adr G 7 0)), (3, .ref (adr G 8 0)), (4, .int x4)] [] M) (h : B_L_law_2209 xs nS k23 x4 M = some 1) : V p l e room_1 (s.setDrawn d0) m #[Value.ref b] below meth c 7 G (K0 + k) (K1 + 6 * k) (lw_Z below #[Value.ref b] s) 2209 [(0, .ref b), (1, .ref (adr G 6 0)), (2, .ref (adr G 7 0)), (3, .ref (adr G 8 0)), (4, .int x4)] [] M := by
  refine V_aload_n hC dL_law_2209 rfl 1 rfl ?_
  refine V_aload_n hC dL_law_2210 rfl 0 rfl ?_
  refine V_iload hC dL_law_2211 4 rfl ?_
  refine V_iconst hC (1 : Int32) dL_law_2213 (by decide) ?_
  refine V_iadd hC dL_law_2214 ?_
  obtain ⟨c337, h⟩ := ite_some h
  refine V_sld hC hsc hbl hbA c337 dL_law_2215 ?_
  refine V_aload_n hC dL_law_2216 rfl 3 rfl ?_
  obtain ⟨q338, e338, h⟩ := bind_some h
  refine V_cW hC hX [.ref (adr G 6 0), .int (xs (cl (x4 + (1 : Int32)))), .ref (adr G 8 0)] (c_L_outline (l := l) (rv := q338.1) (Mf := q338.2) hlt hC.2.2.2.2.2.2.2 e338) kx_L_outline gw_1209 gw_1208 ⟨Nat.le_of_ble_eq_true rfl, Nat.le_of_ble_eq_true rfl⟩ rfl (Nat.le_of_ble_eq_true rfl) dL_law_2217 (law_rm hkk (by omega) (by omega)) rfl ?_
  refine V_istore hC ([(5, .int q338.1), (0, .ref b), (1, .ref (adr G 6 0)), (2, .ref (adr G 7 0)), (3, .ref (adr G 8 0)), (4, .int x4)]) dL_law_2220 (by decide) rfl ?_
  refine V_aload_n hC dL_law_2222 rfl 3 rfl ?_
  refine V_aload_n hC dL_law_2223 rfl 1 rfl ?_
  refine V_iload hC dL_law_2224 5 rfl ?_
  refine V_iconst hC (1 : Int32) dL_law_2226 (by decide) ?_
  refine V_iadd hC dL_law_2227 ?_
  obtain ⟨c339, h⟩ := ite_some h
  refine V_sld hC hsc hbl hbA c339 dL_law_2228 ?_
  obtain ⟨q340, e340, h⟩ := bind_some h
  refine V_cVr hC [.int (xs (cl (x4 + (1 : Int32))))] (c_X9_outline (l := l) (rv := q340.1) (Mf := q340.2) hC.2.2.2.2.2.2.2 e340) kd_X9_outline kv_X9_outline gw_1722 (r_m0_0).o rfl ⟨Nat.le_of_ble_eq_true rfl, Nat.le_of_ble_eq_true rfl⟩ rfl (Nat.le_of_ble_eq_true rfl) dL_law_2229 (law_rm hkk (by omega) (by omega)) rfl ?_
  refine V_istore hC ([(6, .int q340.1), (5, .int q338.1), (0, .ref b), (1, .ref (adr G 6 0)), (2, .ref (adr G 7 0)), (3, .ref (adr G 8 0)), (4, .int x4)]) dL_law_2232 (by decide) rfl ?_
  refine V_aload_n hC dL_law_2234 rfl 4 rfl ?_
  refine V_cVr hC [] (c_X9_thrown (l := l) hC.2.2.2.2.2.2.2 rfl) kd_X9_thrown kv_X9_thrown gw_1310 (r_m0_0).o rfl ⟨Nat.le_of_ble_eq_true rfl, Nat.le_of_ble_eq_true rfl⟩ rfl (Nat.le_of_ble_eq_true rfl) dL_law_2235 (law_rm hkk (by omega) (by omega)) rfl ?_
  refine V_iload hC dL_law_2238 1 rfl ?_
  refine V_icmp_eq hC 2245 dL_law_2240 (by decide) (fun c342 => ?_) (fun c342 => ?_)
  · have h := ite_t c342 h
    refine V_iload hC dL_law_2245 1 rfl ?_
    refine V_if_ne hC 2262 dL_law_2247 (by decide) (fun c343 => ?_) (fun c343 => ?_)
    · have h := ite_f c343 h
      refine V_sub [2, 3, 4, 5, 6] rfl ?_
      exact b_L_law_2262 hC hr hlk hX hd0 hlt hsc hbl hbA hgA hkk hk23 h
    · have h := ite_t c343 h
      refine V_aload_n hC dL_law_2250 rfl 5 rfl ?_
      refine V_iconst hC (0 : Int32) dL_law_2251 (by decide) ?_
      refine V_lald hC rfl dL_law_2252 ?_
      refine V_iload hC dL_law_2253 0 rfl ?_
      refine V_i2l hC dL_law_2255 ?_
      refine V_lcmp hC dL_law_2256 ?_
      refine V_if_eq hC 2262 dL_law_2257 (by decide) (fun c344 => ?_) (fun c344 => ?_)
      · have h := ite_t c344 h
        refine V_sub [2, 3, 4, 5, 6] rfl ?_
        exact b_L_law_2262 hC hr hlk hX hd0 hlt hsc hbl hbA hgA hkk hk23 h
      · have h := ite_f c344 h
        refine V_iconst hC (0 : Int32) dL_law_2260 (by decide) ?_
        exact absurd h (by decide)
  · have h := ite_f c342 h
    refine V_iconst hC (0 : Int32) dL_law_2243 (by decide) ?_
    exact absurd h (by decide)
theorem b_L_law_2306 {xs : Nat → Int32} {nS : Nat} {k : Nat} {b : Nat} {d0 : Drawn} {k23 : Int32 → Mem → Option Int32} {x4 : Int32} {M : Mem} (hC : Cx p (s.setDrawn d0) m #[Value.ref b] c code RL 7 G) (hr : meth.sig.returnType = ret) (hlk : meth.locks = false) (hX : XF G (s.setDrawn d0)) (hd0 : s.drawn.sameBut d0 lw_cs) (hlt : l.stackTraces = false) (hsc : va_X b nS xs (s.setDrawn d0) (s.setDrawn d0).heap) (hbl : b < (s.setDrawn d0).heap.size) (hbA : ¬ gA G b) (hgA : ∀ q, gA G q → s.heap.size ≤ q) (hkk : k ≤ 512) (hk23 : ∀ (x4 : Int32) (M : Mem), k23 x4 M = some 1 → V p l e room_1 (s.setDrawn d0) m #[Value.ref b] below meth c 7 G (K0 + (k + 1)) (K1 + 6 * (k + 1)) (lw_Z below #[Value.ref b] s) 23 [(0, .ref b), (1, .ref (adr G 6 0)), (2, .ref (adr G 7 0)), (3, .ref (adr G 8 0)), (4, .int x4)] [] M) (h : B_L_law_2306 xs nS k23 x4 M = some 1) : V p l e room_1 (s.setDrawn d0) m #[Value.ref b] below meth c 7 G (K0 + k + 1) (K1 + 6 * k + 6) (lw_Z below #[Value.ref b] s) 2306 [(0, .ref b), (1, .ref (adr G 6 0)), (2, .ref (adr G 7 0)), (3, .ref (adr G 8 0)), (4, .int x4)] [] M := by
  refine V_goto hC 2323 dL_law_2306 (by decide) ?_
  refine V_widen (k := K0 + (k + 1)) (n := K1 + 6 * (k + 1)) (by omega) (by omega) ?_
  exact b_L_law_2323 hC hr hlk hX hd0 hlt hsc hbl hbA hgA hkk hk23 h
theorem b_L_law_2265 {xs : Nat → Int32} {nS : Nat} {k : Nat} {b : Nat} {d0 : Drawn} {k23 : Int32 → Mem → Option Int32} {x4 : Int32} {M : Mem} (hC : Cx p (s.setDrawn d0) m #[Value.ref b] c code RL 7 G) (hr : meth.sig.returnType = ret) (hlk : meth.locks = false) (hX : XF G (s.setDrawn d0)) (hd0 : s.drawn.sameBut d0 lw_cs) (hlt : l.stackTraces = false) (hsc : va_X b nS xs (s.setDrawn d0) (s.setDrawn d0).heap) (hbl : b < (s.setDrawn d0).heap.size) (hbA : ¬ gA G b) (hgA : ∀ q, gA G q → s.heap.size ≤ q) (hkk : k ≤ 512) (hk23 : ∀ (x4 : Int32) (M : Mem), k23 x4 M = some 1 → V p l e room_1 (s.setDrawn d0) m #[Value.ref b] below meth c 7 G (K0 + (k + 1)) (K1 + 6 * (k + 1)) (lw_Z below #[Value.ref b] s) 23 [(0, .ref b), (1, .ref (adr G 6 0)), (2, .ref (adr G 7 0)), (3, .ref (adr G 8 0)), (4, .int x4)] [] M) (h : B_L_law_2265 xs nS k23 x4 M = some 1) : V p l e room_1 (s.setDrawn d0) m #[Value.ref b] below meth c 7 G (K0 + k) (K1 + 6 * k) (lw_Z below #[Value.ref b] s) 2265 [(0, .ref b), (1, .ref (adr G 6 0)), (2, .ref (adr G 7 0)), (3, .ref (adr G 8 0)), (4, .int x4)] [] M := by
  refine V_aload_n hC dL_law_2265 rfl 1 rfl ?_
  refine V_aload_n hC dL_law_2266 rfl 3 rfl ?_
  obtain ⟨q346, e346, h⟩ := bind_some h
  refine V_cW hC hX [.ref (adr G 6 0), .ref (adr G 8 0)] (c_L_undo (l := l) (rv := q346.1) (Mf := q346.2) hlt hC.2.2.2.2.2.2.2 e346) kx_L_undo gw_1235 gw_1234 ⟨Nat.le_of_ble_eq_true rfl, Nat.le_of_ble_eq_true rfl⟩ rfl (Nat.le_of_ble_eq_true rfl) dL_law_2267 (law_rm hkk (by omega) (by omega)) rfl ?_
  refine V_istore hC ([(5, .int q346.1), (0, .ref b), (1, .ref (adr G 6 0)), (2, .ref (adr G 7 0)), (3, .ref (adr G 8 0)), (4, .int x4)]) dL_law_2270 (by decide) rfl ?_
  refine V_aload_n hC dL_law_2272 rfl 3 rfl ?_
  obtain ⟨q347, e347, h⟩ := bind_some h
  refine V_cVr hC [] (c_X9_undo (l := l) (rv := q347.1) (Mf := q347.2) hC.2.2.2.2.2.2.2 e347) kd_X9_undo kv_X9_undo gw_1314 (r_m0_0).o rfl ⟨Nat.le_of_ble_eq_true rfl, Nat.le_of_ble_eq_true rfl⟩ rfl (Nat.le_of_ble_eq_true rfl) dL_law_2273 (law_rm hkk (by omega) (by omega)) rfl ?_
  refine V_istore hC ([(6, .int q347.1), (5, .int q346.1), (0, .ref b), (1, .ref (adr G 6 0)), (2, .ref (adr G 7 0)), (3, .ref (adr G 8 0)), (4, .int x4)]) dL_law_2276 (by decide) rfl ?_
  refine V_aload_n hC dL_law_2278 rfl 4 rfl ?_
  refine V_cVr hC [] (c_X9_thrown (l := l) hC.2.2.2.2.2.2.2 rfl) kd_X9_thrown kv_X9_thrown gw_1310 (r_m0_0).o rfl ⟨Nat.le_of_ble_eq_true rfl, Nat.le_of_ble_eq_true rfl⟩ rfl (Nat.le_of_ble_eq_true rfl) dL_law_2279 (law_rm hkk (by omega) (by omega)) rfl ?_
  refine V_iload hC dL_law_2282 1 rfl ?_
  refine V_icmp_eq hC 2289 dL_law_2284 (by decide) (fun c349 => ?_) (fun c349 => ?_)
  · have h := ite_t c349 h
    refine V_iload hC dL_law_2289 1 rfl ?_
    refine V_if_ne hC 2306 dL_law_2291 (by decide) (fun c350 => ?_) (fun c350 => ?_)
    · have h := ite_f c350 h
      refine V_sub [2, 3, 4, 5, 6] rfl ?_
      exact b_L_law_2306 hC hr hlk hX hd0 hlt hsc hbl hbA hgA hkk hk23 h
    · have h := ite_t c350 h
      refine V_aload_n hC dL_law_2294 rfl 5 rfl ?_
      refine V_iconst hC (0 : Int32) dL_law_2295 (by decide) ?_
      refine V_lald hC rfl dL_law_2296 ?_
      refine V_iload hC dL_law_2297 0 rfl ?_
      refine V_i2l hC dL_law_2299 ?_
      refine V_lcmp hC dL_law_2300 ?_
      refine V_if_eq hC 2306 dL_law_2301 (by decide) (fun c351 => ?_) (fun c351 => ?_)
      · have h := ite_t c351 h
        refine V_sub [2, 3, 4, 5, 6] rfl ?_
        exact b_L_law_2306 hC hr hlk hX hd0 hlt hsc hbl hbA hgA hkk hk23 h
      · have h := ite_f c351 h
        refine V_iconst hC (0 : Int32) dL_law_2304 (by decide) ?_
        exact absurd h (by decide)
  · have h := ite_f c349 h
    refine V_iconst hC (0 : Int32) dL_law_2287 (by decide) ?_
    exact absurd h (by decide)
theorem b_L_law_2309 {xs : Nat → Int32} {nS : Nat} {k : Nat} {b : Nat} {d0 : Drawn} {k23 : Int32 → Mem → Option Int32} {x4 : Int32} {M : Mem} (hC : Cx p (s.setDrawn d0) m #[Value.ref b] c code RL 7 G) (hr : meth.sig.returnType = ret) (hlk : meth.locks = false) (hX : XF G (s.setDrawn d0)) (hd0 : s.drawn.sameBut d0 lw_cs) (hlt : l.stackTraces = false) (hsc : va_X b nS xs (s.setDrawn d0) (s.setDrawn d0).heap) (hbl : b < (s.setDrawn d0).heap.size) (hbA : ¬ gA G b) (hgA : ∀ q, gA G q → s.heap.size ≤ q) (hkk : k ≤ 512) (hk23 : ∀ (x4 : Int32) (M : Mem), k23 x4 M = some 1 → V p l e room_1 (s.setDrawn d0) m #[Value.ref b] below meth c 7 G (K0 + (k + 1)) (K1 + 6 * (k + 1)) (lw_Z below #[Value.ref b] s) 23 [(0, .ref b), (1, .ref (adr G 6 0)), (2, .ref (adr G 7 0)), (3, .ref (adr G 8 0)), (4, .int x4)] [] M) (h : B_L_law_2309 xs nS k23 x4 M = some 1) : V p l e room_1 (s.setDrawn d0) m #[Value.ref b] below meth c 7 G (K0 + k) (K1 + 6 * k) (lw_Z below #[Value.ref b] s) 2309 [(0, .ref b), (1, .ref (adr G 6 0)), (2, .ref (adr G 7 0)), (3, .ref (adr G 8 0)), (4, .int x4)] [] M := by
  refine V_aload_n hC dL_law_2309 rfl 1 rfl ?_
  obtain ⟨q353, e353, h⟩ := bind_some h
  refine V_cVr hC [] (c_X8_digest (l := l) hC.2.2.2.2.2.2.2 e353) kd_X8_digest kv_X8_digest gw_668 (r_s0_0).o rfl ⟨Nat.le_of_ble_eq_true rfl, Nat.le_of_ble_eq_true rfl⟩ rfl (Nat.le_of_ble_eq_true rfl) dL_law_2310 (law_rm hkk (by omega) (by omega)) rfl ?_
  refine V_aload_n hC dL_law_2313 rfl 2 rfl ?_
  obtain ⟨q354, e354, h⟩ := bind_some h
  refine V_cVr hC [] (c_X9_digest (l := l) (rv := q354.1) (Mf := q354.2) hC.2.2.2.2.2.2.2 e354) kd_X9_digest kv_X9_digest gw_1738 (r_m0_0).o rfl ⟨Nat.le_of_ble_eq_true rfl, Nat.le_of_ble_eq_true rfl⟩ rfl (Nat.le_of_ble_eq_true rfl) dL_law_2314 (law_rm hkk (by omega) (by omega)) rfl ?_
  refine V_lcmp hC dL_law_2317 ?_
  refine V_if_eq hC 2323 dL_law_2318 (by decide) (fun c355 => ?_) (fun c355 => ?_)
  · have h := ite_t c355 h
    refine V_widen (k := K0 + (k + 1)) (n := K1 + 6 * (k + 1)) (by omega) (by omega) ?_
    exact b_L_law_2323 hC hr hlk hX hd0 hlt hsc hbl hbA hgA hkk hk23 h
  · have h := ite_f c355 h
    refine V_iconst hC (0 : Int32) dL_law_2321 (by decide) ?_
    exact absurd h (by decide)
theorem l_L_law_23 {xs : Nat → Int32} {nS b : Nat} {d0 : Drawn} (hC : Cx p (s.setDrawn d0) m #[Value.ref b] c code RL 7 G) (hr : meth.sig.returnType = ret) (hlk : meth.locks = false) (hX : XF G (s.setDrawn d0)) (hd0 : s.drawn.sameBut d0 lw_cs) (hlt : l.stackTraces = false) (hsc : va_X b nS xs (s.setDrawn d0) (s.setDrawn d0).heap) (hbl : b < (s.setDrawn d0).heap.size) (hbA : ¬ gA G b) (hgA : ∀ q, gA G q → s.heap.size ≤ q) : ∀ (n : Nat) {k : Nat} {x4 : Int32} {M : Mem} (hn : k + n ≤ 513) (h : L_L_law_23 xs nS n x4 M = some 1), V p l e room_1 (s.setDrawn d0) m #[Value.ref b] below meth c 7 G (K0 + k) (K1 + 6 * k) (lw_Z below #[Value.ref b] s) 23 [(0, .ref b), (1, .ref (adr G 6 0)), (2, .ref (adr G 7 0)), (3, .ref (adr G 8 0)), (4, .int x4)] [] M := by
  intro n
  induction n with
  | zero => intro k x4 M hn h; cases h
  | succ n ih =>
    intro k x4 M hn h
    have hkk : k ≤ 512 := by omega
    have hk23 : ∀ (x4 : Int32) (M : Mem), L_L_law_23 xs nS n x4 M = some 1 → V p l e room_1 (s.setDrawn d0) m #[Value.ref b] below meth c 7 G (K0 + (k + 1)) (K1 + 6 * (k + 1)) (lw_Z below #[Value.ref b] s) 23 [(0, .ref b), (1, .ref (adr G 6 0)), (2, .ref (adr G 7 0)), (3, .ref (adr G 8 0)), (4, .int x4)] [] M := fun _ _ z => ih (k := k + 1) (by omega) z
    refine V_iload hC dL_law_23 4 rfl ?_
    refine V_aload_n hC dL_law_25 rfl 0 rfl ?_
    refine V_slen hC hsc hbl hbA dL_law_26 ?_
    refine V_iconst hC (5 : Int32) dL_law_27 (by decide) ?_
    refine V_isub hC dL_law_28 ?_
    refine V_icmp_gt hC 2329 dL_law_29 (by decide) (fun c1 => ?_) (fun c1 => ?_)
    · have h := ite_t c1 h
      refine V_iconst hC (1 : Int32) dL_law_2329 (by decide) ?_
      exact V_lend hC hd0 hgA hr hlk (by unfold K0; omega) (by unfold K1; omega) dL_law_2330
    · have h := ite_f c1 h
      refine V_aload_n hC dL_law_32 rfl 0 rfl ?_
      refine V_iload hC dL_law_33 4 rfl ?_
      obtain ⟨c2, h⟩ := ite_some h
      refine V_sld hC hsc hbl hbA c2 dL_law_35 ?_
      refine V_bipush hC (63 : Int32) dL_law_36 (by decide) ?_
      refine V_iand hC dL_law_38 ?_
      by_cases c3 : ((xs (cl x4)) &&& (63 : Int32)) = (0 : Int32)
      · have h := ite_t c3 h
        refine V_tableIn hC 0 200 dL_law_39 (by rw [c3]; decide) (by decide) rfl (by decide) ?_
        exact b_L_law_200 hC hr hlk hX hd0 hlt hsc hbl hbA hgA hkk hk23 h
      have h := ite_f c3 h
      by_cases c12 : ((xs (cl x4)) &&& (63 : Int32)) = (1 : Int32)
      · have h := ite_t c12 h
        refine V_tableIn hC 1 256 dL_law_39 (by rw [c12]; decide) (by decide) rfl (by decide) ?_
        exact b_L_law_256 hC hr hlk hX hd0 hlt hsc hbl hbA hgA hkk hk23 h
      have h := ite_f c12 h
      by_cases c21 : ((xs (cl x4)) &&& (63 : Int32)) = (2 : Int32)
      · have h := ite_t c21 h
        refine V_tableIn hC 2 312 dL_law_39 (by rw [c21]; decide) (by decide) rfl (by decide) ?_
        exact b_L_law_312 hC hr hlk hX hd0 hlt hsc hbl hbA hgA hkk hk23 h
      have h := ite_f c21 h
      by_cases c32 : ((xs (cl x4)) &&& (63 : Int32)) = (3 : Int32)
      · have h := ite_t c32 h
        refine V_tableIn hC 3 380 dL_law_39 (by rw [c32]; decide) (by decide) rfl (by decide) ?_
        exact b_L_law_380 hC hr hlk hX hd0 hlt hsc hbl hbA hgA hkk hk23 h
      have h := ite_f c32 h
      by_cases c36 : ((xs (cl x4)) &&& (63 : Int32)) = (4 : Int32)
      · have h := ite_t c36 h
        refine V_tableIn hC 4 393 dL_law_39 (by rw [c36]; decide) (by decide) rfl (by decide) ?_
        exact b_L_law_393 hC hr hlk hX hd0 hlt hsc hbl hbA hgA hkk hk23 h
      have h := ite_f c36 h
      by_cases c47 : ((xs (cl x4)) &&& (63 : Int32)) = (5 : Int32)
      · have h := ite_t c47 h
        refine V_tableIn hC 5 461 dL_law_39 (by rw [c47]; decide) (by decide) rfl (by decide) ?_
        exact b_L_law_461 hC hr hlk hX hd0 hlt hsc hbl hbA hgA hkk hk23 h
      have h := ite_f c47 h
      by_cases c58 : ((xs (cl x4)) &&& (63 : Int32)) = (6 : Int32)
      · have h := ite_t c58 h
        refine V_tableIn hC 6 529 dL_law_39 (by rw [c58]; decide) (by decide) rfl (by decide) ?_
        exact b_L_law_529 hC hr hlk hX hd0 hlt hsc hbl hbA hgA hkk hk23 h
      have h := ite_f c58 h
      by_cases c69 : ((xs (cl x4)) &&& (63 : Int32)) = (7 : Int32)
      · have h := ite_t c69 h
        refine V_tableIn hC 7 597 dL_law_39 (by rw [c69]; decide) (by decide) rfl (by decide) ?_
        exact b_L_law_597 hC hr hlk hX hd0 hlt hsc hbl hbA hgA hkk hk23 h
      have h := ite_f c69 h
      by_cases c82 : ((xs (cl x4)) &&& (63 : Int32)) = (8 : Int32)
      · have h := ite_t c82 h
        refine V_tableIn hC 8 677 dL_law_39 (by rw [c82]; decide) (by decide) rfl (by decide) ?_
        exact b_L_law_677 hC hr hlk hX hd0 hlt hsc hbl hbA hgA hkk hk23 h
      have h := ite_f c82 h
      by_cases c99 : ((xs (cl x4)) &&& (63 : Int32)) = (9 : Int32)
      · have h := ite_t c99 h
        refine V_tableIn hC 9 785 dL_law_39 (by rw [c99]; decide) (by decide) rfl (by decide) ?_
        exact b_L_law_785 hC hr hlk hX hd0 hlt hsc hbl hbA hgA hkk hk23 h
      have h := ite_f c99 h
      by_cases c108 : ((xs (cl x4)) &&& (63 : Int32)) = (10 : Int32)
      · have h := ite_t c108 h
        refine V_tableIn hC 10 841 dL_law_39 (by rw [c108]; decide) (by decide) rfl (by decide) ?_
        exact b_L_law_841 hC hr hlk hX hd0 hlt hsc hbl hbA hgA hkk hk23 h
      have h := ite_f c108 h
      by_cases c119 : ((xs (cl x4)) &&& (63 : Int32)) = (11 : Int32)
      · have h := ite_t c119 h
        refine V_tableIn hC 11 909 dL_law_39 (by rw [c119]; decide) (by decide) rfl (by decide) ?_
        exact b_L_law_909 hC hr hlk hX hd0 hlt hsc hbl hbA hgA hkk hk23 h
      have h := ite_f c119 h
      by_cases c128 : ((xs (cl x4)) &&& (63 : Int32)) = (12 : Int32)
      · have h := ite_t c128 h
        refine V_tableIn hC 12 965 dL_law_39 (by rw [c128]; decide) (by decide) rfl (by decide) ?_
        exact b_L_law_965 hC hr hlk hX hd0 hlt hsc hbl hbA hgA hkk hk23 h
      have h := ite_f c128 h
      by_cases c137 : ((xs (cl x4)) &&& (63 : Int32)) = (13 : Int32)
      · have h := ite_t c137 h
        refine V_tableIn hC 13 1021 dL_law_39 (by rw [c137]; decide) (by decide) rfl (by decide) ?_
        exact b_L_law_1021 hC hr hlk hX hd0 hlt hsc hbl hbA hgA hkk hk23 h
      have h := ite_f c137 h
      by_cases c152 : ((xs (cl x4)) &&& (63 : Int32)) = (14 : Int32)
      · have h := ite_t c152 h
        refine V_tableIn hC 14 1113 dL_law_39 (by rw [c152]; decide) (by decide) rfl (by decide) ?_
        exact b_L_law_1113 hC hr hlk hX hd0 hlt hsc hbl hbA hgA hkk hk23 h
      have h := ite_f c152 h
      by_cases c169 : ((xs (cl x4)) &&& (63 : Int32)) = (15 : Int32)
      · have h := ite_t c169 h
        refine V_tableIn hC 15 1221 dL_law_39 (by rw [c169]; decide) (by decide) rfl (by decide) ?_
        exact b_L_law_1221 hC hr hlk hX hd0 hlt hsc hbl hbA hgA hkk hk23 h
      have h := ite_f c169 h
      by_cases c178 : ((xs (cl x4)) &&& (63 : Int32)) = (16 : Int32)
      · have h := ite_t c178 h
        refine V_tableIn hC 16 1277 dL_law_39 (by rw [c178]; decide) (by decide) rfl (by decide) ?_
        exact b_L_law_1277 hC hr hlk hX hd0 hlt hsc hbl hbA hgA hkk hk23 h
      have h := ite_f c178 h
      by_cases c189 : ((xs (cl x4)) &&& (63 : Int32)) = (17 : Int32)
      · have h := ite_t c189 h
        refine V_tableIn hC 17 1345 dL_law_39 (by rw [c189]; decide) (by decide) rfl (by decide) ?_
        exact b_L_law_1345 hC hr hlk hX hd0 hlt hsc hbl hbA hgA hkk hk23 h
      have h := ite_f c189 h
      by_cases c200 : ((xs (cl x4)) &&& (63 : Int32)) = (18 : Int32)
      · have h := ite_t c200 h
        refine V_tableIn hC 18 1413 dL_law_39 (by rw [c200]; decide) (by decide) rfl (by decide) ?_
        exact b_L_law_1413 hC hr hlk hX hd0 hlt hsc hbl hbA hgA hkk hk23 h
      have h := ite_f c200 h
      by_cases c209 : ((xs (cl x4)) &&& (63 : Int32)) = (19 : Int32)
      · have h := ite_t c209 h
        refine V_tableIn hC 19 1469 dL_law_39 (by rw [c209]; decide) (by decide) rfl (by decide) ?_
        exact b_L_law_1469 hC hr hlk hX hd0 hlt hsc hbl hbA hgA hkk hk23 h
      have h := ite_f c209 h
      by_cases c218 : ((xs (cl x4)) &&& (63 : Int32)) = (20 : Int32)
      · have h := ite_t c218 h
        refine V_tableIn hC 20 1525 dL_law_39 (by rw [c218]; decide) (by decide) rfl (by decide) ?_
        exact b_L_law_1525 hC hr hlk hX hd0 hlt hsc hbl hbA hgA hkk hk23 h
      have h := ite_f c218 h
      by_cases c227 : ((xs (cl x4)) &&& (63 : Int32)) = (21 : Int32)
      · have h := ite_t c227 h
        refine V_tableIn hC 21 1581 dL_law_39 (by rw [c227]; decide) (by decide) rfl (by decide) ?_
        exact b_L_law_1581 hC hr hlk hX hd0 hlt hsc hbl hbA hgA hkk hk23 h
      have h := ite_f c227 h
      by_cases c236 : ((xs (cl x4)) &&& (63 : Int32)) = (22 : Int32)
      · have h := ite_t c236 h
        refine V_tableIn hC 22 1637 dL_law_39 (by rw [c236]; decide) (by decide) rfl (by decide) ?_
        exact b_L_law_1637 hC hr hlk hX hd0 hlt hsc hbl hbA hgA hkk hk23 h
      have h := ite_f c236 h
      by_cases c240 : ((xs (cl x4)) &&& (63 : Int32)) = (23 : Int32)
      · have h := ite_t c240 h
        refine V_tableIn hC 23 1650 dL_law_39 (by rw [c240]; decide) (by decide) rfl (by decide) ?_
        exact b_L_law_1650 hC hr hlk hX hd0 hlt hsc hbl hbA hgA hkk hk23 h
      have h := ite_f c240 h
      by_cases c251 : ((xs (cl x4)) &&& (63 : Int32)) = (24 : Int32)
      · have h := ite_t c251 h
        refine V_tableIn hC 24 1718 dL_law_39 (by rw [c251]; decide) (by decide) rfl (by decide) ?_
        exact b_L_law_1718 hC hr hlk hX hd0 hlt hsc hbl hbA hgA hkk hk23 h
      have h := ite_f c251 h
      by_cases c262 : ((xs (cl x4)) &&& (63 : Int32)) = (25 : Int32)
      · have h := ite_t c262 h
        refine V_tableIn hC 25 1786 dL_law_39 (by rw [c262]; decide) (by decide) rfl (by decide) ?_
        exact b_L_law_1786 hC hr hlk hX hd0 hlt hsc hbl hbA hgA hkk hk23 h
      have h := ite_f c262 h
      by_cases c275 : ((xs (cl x4)) &&& (63 : Int32)) = (26 : Int32)
      · have h := ite_t c275 h
        refine V_tableIn hC 26 1866 dL_law_39 (by rw [c275]; decide) (by decide) rfl (by decide) ?_
        exact b_L_law_1866 hC hr hlk hX hd0 hlt hsc hbl hbA hgA hkk hk23 h
      have h := ite_f c275 h
      by_cases c286 : ((xs (cl x4)) &&& (63 : Int32)) = (27 : Int32)
      · have h := ite_t c286 h
        refine V_tableIn hC 27 1934 dL_law_39 (by rw [c286]; decide) (by decide) rfl (by decide) ?_
        exact b_L_law_1934 hC hr hlk hX hd0 hlt hsc hbl hbA hgA hkk hk23 h
      have h := ite_f c286 h
      by_cases c290 : ((xs (cl x4)) &&& (63 : Int32)) = (28 : Int32)
      · have h := ite_t c290 h
        refine V_tableIn hC 28 1947 dL_law_39 (by rw [c290]; decide) (by decide) rfl (by decide) ?_
        exact b_L_law_1947 hC hr hlk hX hd0 hlt hsc hbl hbA hgA hkk hk23 h
      have h := ite_f c290 h
      by_cases c301 : ((xs (cl x4)) &&& (63 : Int32)) = (29 : Int32)
      · have h := ite_t c301 h
        refine V_tableIn hC 29 2015 dL_law_39 (by rw [c301]; decide) (by decide) rfl (by decide) ?_
        exact b_L_law_2015 hC hr hlk hX hd0 hlt hsc hbl hbA hgA hkk hk23 h
      have h := ite_f c301 h
      by_cases c310 : ((xs (cl x4)) &&& (63 : Int32)) = (30 : Int32)
      · have h := ite_t c310 h
        refine V_tableIn hC 30 2071 dL_law_39 (by rw [c310]; decide) (by decide) rfl (by decide) ?_
        exact b_L_law_2071 hC hr hlk hX hd0 hlt hsc hbl hbA hgA hkk hk23 h
      have h := ite_f c310 h
      by_cases c319 : ((xs (cl x4)) &&& (63 : Int32)) = (31 : Int32)
      · have h := ite_t c319 h
        refine V_tableIn hC 31 2127 dL_law_39 (by rw [c319]; decide) (by decide) rfl (by decide) ?_
        exact b_L_law_2127 hC hr hlk hX hd0 hlt hsc hbl hbA hgA hkk hk23 h
      have h := ite_f c319 h
      by_cases c328 : ((xs (cl x4)) &&& (63 : Int32)) = (32 : Int32)
      · have h := ite_t c328 h
        refine V_tableIn hC 32 2183 dL_law_39 (by rw [c328]; decide) (by decide) rfl (by decide) ?_
        exact b_L_law_2183 hC hr hlk hX hd0 hlt hsc hbl hbA hgA hkk hk23 h
      have h := ite_f c328 h
      by_cases c332 : ((xs (cl x4)) &&& (63 : Int32)) = (33 : Int32)
      · have h := ite_t c332 h
        refine V_tableIn hC 33 2196 dL_law_39 (by rw [c332]; decide) (by decide) rfl (by decide) ?_
        exact b_L_law_2196 hC hr hlk hX hd0 hlt hsc hbl hbA hgA hkk hk23 h
      have h := ite_f c332 h
      by_cases c336 : ((xs (cl x4)) &&& (63 : Int32)) = (34 : Int32)
      · have h := ite_t c336 h
        refine V_tableIn hC 34 2209 dL_law_39 (by rw [c336]; decide) (by decide) rfl (by decide) ?_
        exact b_L_law_2209 hC hr hlk hX hd0 hlt hsc hbl hbA hgA hkk hk23 h
      have h := ite_f c336 h
      by_cases c345 : ((xs (cl x4)) &&& (63 : Int32)) = (35 : Int32)
      · have h := ite_t c345 h
        refine V_tableIn hC 35 2265 dL_law_39 (by rw [c345]; decide) (by decide) rfl (by decide) ?_
        exact b_L_law_2265 hC hr hlk hX hd0 hlt hsc hbl hbA hgA hkk hk23 h
      have h := ite_f c345 h
      by_cases c352 : ((xs (cl x4)) &&& (63 : Int32)) = (36 : Int32)
      · have h := ite_t c352 h
        refine V_tableIn hC 36 2309 dL_law_39 (by rw [c352]; decide) (by decide) rfl (by decide) ?_
        exact b_L_law_2309 hC hr hlk hX hd0 hlt hsc hbl hbA hgA hkk hk23 h
      have h := ite_f c352 h
      refine V_tableOut hC 2323 dL_law_39 (tsw_out (0) 37 ((xs (cl x4)) &&& (63 : Int32)) (tsw_cons c3 (by decide) (tsw_cons c12 (by decide) (tsw_cons c21 (by decide) (tsw_cons c32 (by decide) (tsw_cons c36 (by decide) (tsw_cons c47 (by decide) (tsw_cons c58 (by decide) (tsw_cons c69 (by decide) (tsw_cons c82 (by decide) (tsw_cons c99 (by decide) (tsw_cons c108 (by decide) (tsw_cons c119 (by decide) (tsw_cons c128 (by decide) (tsw_cons c137 (by decide) (tsw_cons c152 (by decide) (tsw_cons c169 (by decide) (tsw_cons c178 (by decide) (tsw_cons c189 (by decide) (tsw_cons c200 (by decide) (tsw_cons c209 (by decide) (tsw_cons c218 (by decide) (tsw_cons c227 (by decide) (tsw_cons c236 (by decide) (tsw_cons c240 (by decide) (tsw_cons c251 (by decide) (tsw_cons c262 (by decide) (tsw_cons c275 (by decide) (tsw_cons c286 (by decide) (tsw_cons c290 (by decide) (tsw_cons c301 (by decide) (tsw_cons c310 (by decide) (tsw_cons c319 (by decide) (tsw_cons c328 (by decide) (tsw_cons c332 (by decide) (tsw_cons c336 (by decide) (tsw_cons c345 (by decide) (tsw_cons c352 (by decide) (tsw_nil)))))))))))))))))))))))))))))))))))))) rfl) (by decide) ?_
      refine V_widen (k := K0 + (k + 1)) (n := K1 + 6 * (k + 1)) (by omega) (by omega) ?_
      exact b_L_law_2323 hC hr hlk hX hd0 hlt hsc hbl hbA hgA hkk hk23 h
end
