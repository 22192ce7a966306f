section
variable {p : Program} {l : Launch} {e : Env} {s : State} {m : MethodId} {args : Array Value} {below : List Frame} {meth : Method} {c : Code} {G : Geo}
set_option maxRecDepth 100000 in
set_option maxHeartbeats 8000000 in
theorem b_L_law_655 {xs : Nat → Int32} {nS : Nat} {u : Nat} {b : Nat} {d0 : Drawn} {x2 : Int32} {M : Mem} (hC : Cx p (s.setDrawn d0) m #[Value.ref b] c code RL 11 G) (hr : meth.sig.returnType = ret) (hlk : meth.locks = false) (hX : XF G (s.setDrawn d0)) (hd0 : s.drawn.sameBut d0 lw_cs) (hlt : l.stackTraces = false) (hsc : va_X b nS xs (s.setDrawn d0) (s.setDrawn d0).heap) (hbl : b < (s.setDrawn d0).heap.size) (hbA : ¬ gA G b) (hgA : ∀ q, gA G q → s.heap.size ≤ q) (hnS : nS < 2147483648) (hu : u + (930) ≤ (KL + 939)) (h : B_L_law_655 xs nS x2 M = some 1) : V p l e room_1 (s.setDrawn d0) m #[Value.ref b] below meth c 11 G (1000 + (u)) (100000 + 6 * (u)) (lw_Z below #[Value.ref b] s) 655 [(1, .ref (adr G 6 0)), (2, .int x2)] [] M := by
  refine V_iload_n hC dL_law_655 rfl 1 rfl ?_
  refine V_if_eq hC 680 dL_law_656 (by decide) (fun c5 => ?_) (fun c5 => ?_)
  · have h := ite_t c5 h
    refine V_iconst hC (0 : Int32) dL_law_680 (by decide) ?_
    exact absurd h (by decide)
  · have h := ite_f c5 h
    refine V_aload_n hC dL_law_659 rfl 0 rfl ?_
    refine V_iconst hC (0 : Int32) dL_law_660 (by decide) ?_
    refine V_widen (k := 1000 + (u + 0)) (n := 100000 + 6 * (u + 0)) (by omega) (by omega) ?_
    obtain ⟨q6, e6, h⟩ := bind_some h
    refine V_cW hC hX [.ref (adr G 6 0), .int (0 : Int32)] (c_L_outline (l := l) (rv := q6.1) (Mf := q6.2) hlt hC.2.2.2.2.2.2.2 e6) kx_L_outline gw_910 gw_909 ⟨Nat.le_of_ble_eq_true rfl, Nat.le_of_ble_eq_true rfl⟩ rfl (Nat.le_of_ble_eq_true rfl) dL_law_661 (law_hf (u := u + 0) (k := 1) (by omega)) rfl ?_
    refine V_bipush hC (48 : Int32) dL_law_664 (by decide) ?_
    refine V_icmp_ne hC 680 dL_law_666 (by decide) (fun c7 => ?_) (fun c7 => ?_)
    · have h := ite_f c7 h
      refine V_iconst hC (0 : Int32) dL_law_680 (by decide) ?_
      exact absurd h (by decide)
    · have h := ite_t c7 h
      refine V_aload_n hC dL_law_669 rfl 0 rfl ?_
      refine V_widen (k := 1000 + (u + 1)) (n := 100000 + 6 * (u + 1)) (by omega) (by omega) ?_
      obtain ⟨q8, e8, h⟩ := bind_some h
      refine V_cL (K := 929) hC hX [.ref (adr G 6 0)] (c_L_refused (l := l) (rv := q8.1) (Mf := q8.2) hlt hC.2.2.2.2.2.2.2 e8) kd_L_refused gw_958 gw_957 ⟨Nat.le_of_ble_eq_true rfl, Nat.le_of_ble_eq_true rfl⟩ rfl (Nat.le_of_ble_eq_true rfl) dL_law_670 (law_hf (u := u + 1) (k := 929) (by omega)) rfl ?_
      refine V_if_eq hC 680 dL_law_673 (by decide) (fun c9 => ?_) (fun c9 => ?_)
      · have h := ite_t c9 h
        refine V_iconst hC (0 : Int32) dL_law_680 (by decide) ?_
        exact absurd h (by decide)
      · have h := ite_f c9 h
        refine V_iconst hC (1 : Int32) dL_law_676 (by decide) ?_
        refine V_goto hC 681 dL_law_677 (by decide) ?_
        refine V_widen (k := 1000 + (u + 930)) (n := 100000 + 6 * (u + 930)) (by omega) (by omega) ?_
        exact V_lend hC hd0 hgA hr hlk (law_hf (u := u + 930) (k := 0) (by omega)).1 (law_hf (u := u + 930) (k := 0) (by omega)).2 dL_law_681
set_option maxRecDepth 100000 in
set_option maxHeartbeats 8000000 in
theorem b_L_law_648 {xs : Nat → Int32} {nS : Nat} {u : Nat} {v86 : Nat} {b : Nat} {d0 : Drawn} {k86 : Int32 → Int32 → Mem → Option Int32} {x3 : Int32} {z0 : Int32} {M : Mem} (hC : Cx p (s.setDrawn d0) m #[Value.ref b] c code RL 11 G) (hr : meth.sig.returnType = ret) (hlk : meth.locks = false) (hX : XF G (s.setDrawn d0)) (hd0 : s.drawn.sameBut d0 lw_cs) (hlt : l.stackTraces = false) (hsc : va_X b nS xs (s.setDrawn d0) (s.setDrawn d0).heap) (hbl : b < (s.setDrawn d0).heap.size) (hbA : ¬ gA G b) (hgA : ∀ q, gA G q → s.heap.size ≤ q) (hnS : nS < 2147483648) (hk86 : ∀ (u : Nat) (x2 : Int32) (x3 : Int32) (M : Mem), u + v86 ≤ (KL + 939) → k86 x2 x3 M = some 1 → V p l e room_1 (s.setDrawn d0) m #[Value.ref b] below meth c 11 G (1000 + (u)) (100000 + 6 * (u)) (lw_Z below #[Value.ref b] s) 86 [(0, .ref b), (1, .ref (adr G 6 0)), (2, .int x2), (3, .int x3)] [] M) (hv86 : 930 ≤ v86) (hu : u + (0 + v86) ≤ (KL + 939)) (h : B_L_law_648 xs nS k86 x3 z0 M = some 1) : V p l e room_1 (s.setDrawn d0) m #[Value.ref b] below meth c 11 G (1000 + (u)) (100000 + 6 * (u)) (lw_Z below #[Value.ref b] s) 648 [(0, .ref b), (1, .ref (adr G 6 0)), (3, .int x3)] [.int z0] M := by
  refine V_istore_n hC ([(2, .int z0), (0, .ref b), (1, .ref (adr G 6 0)), (3, .int x3)]) dL_law_648 rfl (by decide) rfl ?_
  refine V_iinc hC (x3 + 1) ([(3, .int (x3 + 1)), (2, .int z0), (0, .ref b), (1, .ref (adr G 6 0))]) dL_law_649 3 rfl rfl (by decide) rfl ?_
  refine V_goto hC 86 dL_law_652 (by decide) ?_
  refine V_sub [2, 3, 1, 0] rfl ?_
  refine V_widen (k := 1000 + (u + 0)) (n := 100000 + 6 * (u + 0)) (by omega) (by omega) ?_
  exact hk86 _ _ _ _ (by omega) h
set_option maxRecDepth 100000 in
set_option maxHeartbeats 8000000 in
theorem b_L_law_647 {xs : Nat → Int32} {nS : Nat} {u : Nat} {v86 : Nat} {b : Nat} {d0 : Drawn} {k86 : Int32 → Int32 → Mem → Option Int32} {x3 : Int32} {M : Mem} (hC : Cx p (s.setDrawn d0) m #[Value.ref b] c code RL 11 G) (hr : meth.sig.returnType = ret) (hlk : meth.locks = false) (hX : XF G (s.setDrawn d0)) (hd0 : s.drawn.sameBut d0 lw_cs) (hlt : l.stackTraces = false) (hsc : va_X b nS xs (s.setDrawn d0) (s.setDrawn d0).heap) (hbl : b < (s.setDrawn d0).heap.size) (hbA : ¬ gA G b) (hgA : ∀ q, gA G q → s.heap.size ≤ q) (hnS : nS < 2147483648) (hk86 : ∀ (u : Nat) (x2 : Int32) (x3 : Int32) (M : Mem), u + v86 ≤ (KL + 939) → k86 x2 x3 M = some 1 → V p l e room_1 (s.setDrawn d0) m #[Value.ref b] below meth c 11 G (1000 + (u)) (100000 + 6 * (u)) (lw_Z below #[Value.ref b] s) 86 [(0, .ref b), (1, .ref (adr G 6 0)), (2, .int x2), (3, .int x3)] [] M) (hv86 : 930 ≤ v86) (hu : u + (0 + v86) ≤ (KL + 939)) (h : B_L_law_647 xs nS k86 x3 M = some 1) : V p l e room_1 (s.setDrawn d0) m #[Value.ref b] below meth c 11 G (1000 + (u)) (100000 + 6 * (u)) (lw_Z below #[Value.ref b] s) 647 [(0, .ref b), (1, .ref (adr G 6 0)), (3, .int x3)] [] M := by
  refine V_iconst hC (0 : Int32) dL_law_647 (by decide) ?_
  refine V_widen (k := 1000 + (u + 0)) (n := 100000 + 6 * (u + 0)) (by omega) (by omega) ?_
  exact b_L_law_648 hC hr hlk hX hd0 hlt hsc hbl hbA hgA hnS hk86 hv86 (by omega) h
set_option maxRecDepth 100000 in
set_option maxHeartbeats 8000000 in
theorem b_L_law_643 {xs : Nat → Int32} {nS : Nat} {u : Nat} {v86 : Nat} {b : Nat} {d0 : Drawn} {k86 : Int32 → Int32 → Mem → Option Int32} {x3 : Int32} {M : Mem} (hC : Cx p (s.setDrawn d0) m #[Value.ref b] c code RL 11 G) (hr : meth.sig.returnType = ret) (hlk : meth.locks = false) (hX : XF G (s.setDrawn d0)) (hd0 : s.drawn.sameBut d0 lw_cs) (hlt : l.stackTraces = false) (hsc : va_X b nS xs (s.setDrawn d0) (s.setDrawn d0).heap) (hbl : b < (s.setDrawn d0).heap.size) (hbA : ¬ gA G b) (hgA : ∀ q, gA G q → s.heap.size ≤ q) (hnS : nS < 2147483648) (hk86 : ∀ (u : Nat) (x2 : Int32) (x3 : Int32) (M : Mem), u + v86 ≤ (KL + 939) → k86 x2 x3 M = some 1 → V p l e room_1 (s.setDrawn d0) m #[Value.ref b] below meth c 11 G (1000 + (u)) (100000 + 6 * (u)) (lw_Z below #[Value.ref b] s) 86 [(0, .ref b), (1, .ref (adr G 6 0)), (2, .int x2), (3, .int x3)] [] M) (hv86 : 930 ≤ v86) (hu : u + (0 + v86) ≤ (KL + 939)) (h : B_L_law_643 xs nS k86 x3 M = some 1) : V p l e room_1 (s.setDrawn d0) m #[Value.ref b] below meth c 11 G (1000 + (u)) (100000 + 6 * (u)) (lw_Z below #[Value.ref b] s) 643 [(0, .ref b), (1, .ref (adr G 6 0)), (3, .int x3)] [] M := by
  refine V_iconst hC (1 : Int32) dL_law_643 (by decide) ?_
  refine V_goto hC 648 dL_law_644 (by decide) ?_
  refine V_widen (k := 1000 + (u + 0)) (n := 100000 + 6 * (u + 0)) (by omega) (by omega) ?_
  exact b_L_law_648 hC hr hlk hX hd0 hlt hsc hbl hbA hgA hnS hk86 hv86 (by omega) h
set_option maxRecDepth 100000 in
set_option maxHeartbeats 8000000 in
theorem b_L_law_611 {xs : Nat → Int32} {nS : Nat} {u : Nat} {v86 : Nat} {b : Nat} {d0 : Drawn} {k86 : Int32 → Int32 → Mem → Option Int32} {x3 : Int32} {x5 : Int32} {z0 : Int32} {M : Mem} (hC : Cx p (s.setDrawn d0) m #[Value.ref b] c code RL 11 G) (hr : meth.sig.returnType = ret) (hlk : meth.locks = false) (hX : XF G (s.setDrawn d0)) (hd0 : s.drawn.sameBut d0 lw_cs) (hlt : l.stackTraces = false) (hsc : va_X b nS xs (s.setDrawn d0) (s.setDrawn d0).heap) (hbl : b < (s.setDrawn d0).heap.size) (hbA : ¬ gA G b) (hgA : ∀ q, gA G q → s.heap.size ≤ q) (hnS : nS < 2147483648) (hk86 : ∀ (u : Nat) (x2 : Int32) (x3 : Int32) (M : Mem), u + v86 ≤ (KL + 939) → k86 x2 x3 M = some 1 → V p l e room_1 (s.setDrawn d0) m #[Value.ref b] below meth c 11 G (1000 + (u)) (100000 + 6 * (u)) (lw_Z below #[Value.ref b] s) 86 [(0, .ref b), (1, .ref (adr G 6 0)), (2, .int x2), (3, .int x3)] [] M) (hv86 : 930 ≤ v86) (hu : u + (1 + v86) ≤ (KL + 939)) (h : B_L_law_611 xs nS k86 x3 x5 z0 M = some 1) : V p l e room_1 (s.setDrawn d0) m #[Value.ref b] below meth c 11 G (1000 + (u)) (100000 + 6 * (u)) (lw_Z below #[Value.ref b] s) 611 [(0, .ref b), (1, .ref (adr G 6 0)), (3, .int x3), (5, .int x5)] [.int z0] M := by
  refine V_istore_n hC ([(2, .int z0), (0, .ref b), (1, .ref (adr G 6 0)), (3, .int x3), (5, .int x5)]) dL_law_611 rfl (by decide) rfl ?_
  refine V_aload_n hC dL_law_612 rfl 2 rfl ?_
  refine V_iload hC dL_law_613 4 rfl ?_
  refine V_widen (k := 1000 + (u + 0)) (n := 100000 + 6 * (u + 0)) (by omega) (by omega) ?_
  obtain ⟨q24, e24, h⟩ := bind_some h
  refine V_cW hC hX [.ref (adr G 6 0), .int x5] (c_L_waitsFor (l := l) (rv := q24.1) (Mf := q24.2) hlt hC.2.2.2.2.2.2.2 e24) kx_L_waitsFor gw_846 gw_845 ⟨Nat.le_of_ble_eq_true rfl, Nat.le_of_ble_eq_true rfl⟩ rfl (Nat.le_of_ble_eq_true rfl) dL_law_615 (law_hf (u := u + 0) (k := 1) (by omega)) rfl ?_
  refine V_istore hC ([(10, .int q24.1), (2, .int z0), (0, .ref b), (1, .ref (adr G 6 0)), (3, .int x3), (5, .int x5)]) dL_law_618 (by decide) rfl ?_
  refine V_iload_n hC dL_law_620 rfl 1 rfl ?_
  refine V_if_eq hC 647 dL_law_621 (by decide) (fun c25 => ?_) (fun c25 => ?_)
  · have h := ite_t c25 h
    refine V_sub [2, 3, 4] rfl ?_
    refine V_widen (k := 1000 + (u + 1)) (n := 100000 + 6 * (u + 1)) (by omega) (by omega) ?_
    exact b_L_law_647 hC hr hlk hX hd0 hlt hsc hbl hbA hgA hnS hk86 hv86 (by omega) h
  · have h := ite_f c25 h
    refine V_iload hC dL_law_624 0 rfl ?_
    refine V_bipush hC ((-52) : Int32) dL_law_626 (by decide) ?_
    refine V_icmp_eq hC 643 dL_law_628 (by decide) (fun c26 => ?_) (fun c26 => ?_)
    · have h := ite_t c26 h
      refine V_sub [2, 3, 4] rfl ?_
      refine V_widen (k := 1000 + (u + 1)) (n := 100000 + 6 * (u + 1)) (by omega) (by omega) ?_
      exact b_L_law_643 hC hr hlk hX hd0 hlt hsc hbl hbA hgA hnS hk86 hv86 (by omega) h
    · have h := ite_f c26 h
      refine V_iload hC dL_law_631 0 rfl ?_
      refine V_if_lt hC 647 dL_law_633 (by decide) (fun c27 => ?_) (fun c27 => ?_)
      · have h := ite_t c27 h
        refine V_sub [2, 3, 4] rfl ?_
        refine V_widen (k := 1000 + (u + 1)) (n := 100000 + 6 * (u + 1)) (by omega) (by omega) ?_
        exact b_L_law_647 hC hr hlk hX hd0 hlt hsc hbl hbA hgA hnS hk86 hv86 (by omega) h
      · have h := ite_f c27 h
        refine V_iload hC dL_law_636 0 rfl ?_
        refine V_bipush hC (64 : Int32) dL_law_638 (by decide) ?_
        refine V_icmp_ge hC 647 dL_law_640 (by decide) (fun c28 => ?_) (fun c28 => ?_)
        · have h := ite_t c28 h
          refine V_sub [2, 3, 4] rfl ?_
          refine V_widen (k := 1000 + (u + 1)) (n := 100000 + 6 * (u + 1)) (by omega) (by omega) ?_
          exact b_L_law_647 hC hr hlk hX hd0 hlt hsc hbl hbA hgA hnS hk86 hv86 (by omega) h
        · have h := ite_f c28 h
          refine V_sub [2, 3, 4] rfl ?_
          refine V_widen (k := 1000 + (u + 1)) (n := 100000 + 6 * (u + 1)) (by omega) (by omega) ?_
          exact b_L_law_643 hC hr hlk hX hd0 hlt hsc hbl hbA hgA hnS hk86 hv86 (by omega) h
set_option maxRecDepth 100000 in
set_option maxHeartbeats 8000000 in
theorem b_L_law_610 {xs : Nat → Int32} {nS : Nat} {u : Nat} {v86 : Nat} {b : Nat} {d0 : Drawn} {k86 : Int32 → Int32 → Mem → Option Int32} {x3 : Int32} {x5 : Int32} {M : Mem} (hC : Cx p (s.setDrawn d0) m #[Value.ref b] c code RL 11 G) (hr : meth.sig.returnType = ret) (hlk : meth.locks = false) (hX : XF G (s.setDrawn d0)) (hd0 : s.drawn.sameBut d0 lw_cs) (hlt : l.stackTraces = false) (hsc : va_X b nS xs (s.setDrawn d0) (s.setDrawn d0).heap) (hbl : b < (s.setDrawn d0).heap.size) (hbA : ¬ gA G b) (hgA : ∀ q, gA G q → s.heap.size ≤ q) (hnS : nS < 2147483648) (hk86 : ∀ (u : Nat) (x2 : Int32) (x3 : Int32) (M : Mem), u + v86 ≤ (KL + 939) → k86 x2 x3 M = some 1 → V p l e room_1 (s.setDrawn d0) m #[Value.ref b] below meth c 11 G (1000 + (u)) (100000 + 6 * (u)) (lw_Z below #[Value.ref b] s) 86 [(0, .ref b), (1, .ref (adr G 6 0)), (2, .int x2), (3, .int x3)] [] M) (hv86 : 930 ≤ v86) (hu : u + (1 + v86) ≤ (KL + 939)) (h : B_L_law_610 xs nS k86 x3 x5 M = some 1) : V p l e room_1 (s.setDrawn d0) m #[Value.ref b] below meth c 11 G (1000 + (u)) (100000 + 6 * (u)) (lw_Z below #[Value.ref b] s) 610 [(0, .ref b), (1, .ref (adr G 6 0)), (3, .int x3), (5, .int x5)] [] M := by
  refine V_iconst hC (0 : Int32) dL_law_610 (by decide) ?_
  refine V_widen (k := 1000 + (u + 0)) (n := 100000 + 6 * (u + 0)) (by omega) (by omega) ?_
  exact b_L_law_611 hC hr hlk hX hd0 hlt hsc hbl hbA hgA hnS hk86 hv86 (by omega) h
set_option maxRecDepth 100000 in
set_option maxHeartbeats 8000000 in
theorem b_L_law_606 {xs : Nat → Int32} {nS : Nat} {u : Nat} {v86 : Nat} {b : Nat} {d0 : Drawn} {k86 : Int32 → Int32 → Mem → Option Int32} {x3 : Int32} {x5 : Int32} {M : Mem} (hC : Cx p (s.setDrawn d0) m #[Value.ref b] c code RL 11 G) (hr : meth.sig.returnType = ret) (hlk : meth.locks = false) (hX : XF G (s.setDrawn d0)) (hd0 : s.drawn.sameBut d0 lw_cs) (hlt : l.stackTraces = false) (hsc : va_X b nS xs (s.setDrawn d0) (s.setDrawn d0).heap) (hbl : b < (s.setDrawn d0).heap.size) (hbA : ¬ gA G b) (hgA : ∀ q, gA G q → s.heap.size ≤ q) (hnS : nS < 2147483648) (hk86 : ∀ (u : Nat) (x2 : Int32) (x3 : Int32) (M : Mem), u + v86 ≤ (KL + 939) → k86 x2 x3 M = some 1 → V p l e room_1 (s.setDrawn d0) m #[Value.ref b] below meth c 11 G (1000 + (u)) (100000 + 6 * (u)) (lw_Z below #[Value.ref b] s) 86 [(0, .ref b), (1, .ref (adr G 6 0)), (2, .int x2), (3, .int x3)] [] M) (hv86 : 930 ≤ v86) (hu : u + (1 + v86) ≤ (KL + 939)) (h : B_L_law_606 xs nS k86 x3 x5 M = some 1) : V p l e room_1 (s.setDrawn d0) m #[Value.ref b] below meth c 11 G (1000 + (u)) (100000 + 6 * (u)) (lw_Z below #[Value.ref b] s) 606 [(0, .ref b), (1, .ref (adr G 6 0)), (3, .int x3), (5, .int x5)] [] M := by
  refine V_iconst hC (1 : Int32) dL_law_606 (by decide) ?_
  refine V_goto hC 611 dL_law_607 (by decide) ?_
  refine V_widen (k := 1000 + (u + 0)) (n := 100000 + 6 * (u + 0)) (by omega) (by omega) ?_
  exact b_L_law_611 hC hr hlk hX hd0 hlt hsc hbl hbA hgA hnS hk86 hv86 (by omega) h
set_option maxRecDepth 100000 in
set_option maxHeartbeats 8000000 in
theorem b_L_law_591 {xs : Nat → Int32} {nS : Nat} {u : Nat} {v86 : Nat} {b : Nat} {d0 : Drawn} {k86 : Int32 → Int32 → Mem → Option Int32} {x3 : Int32} {x5 : Int32} {M : Mem} (hC : Cx p (s.setDrawn d0) m #[Value.ref b] c code RL 11 G) (hr : meth.sig.returnType = ret) (hlk : meth.locks = false) (hX : XF G (s.setDrawn d0)) (hd0 : s.drawn.sameBut d0 lw_cs) (hlt : l.stackTraces = false) (hsc : va_X b nS xs (s.setDrawn d0) (s.setDrawn d0).heap) (hbl : b < (s.setDrawn d0).heap.size) (hbA : ¬ gA G b) (hgA : ∀ q, gA G q → s.heap.size ≤ q) (hnS : nS < 2147483648) (hk86 : ∀ (u : Nat) (x2 : Int32) (x3 : Int32) (M : Mem), u + v86 ≤ (KL + 939) → k86 x2 x3 M = some 1 → V p l e room_1 (s.setDrawn d0) m #[Value.ref b] below meth c 11 G (1000 + (u)) (100000 + 6 * (u)) (lw_Z below #[Value.ref b] s) 86 [(0, .ref b), (1, .ref (adr G 6 0)), (2, .int x2), (3, .int x3)] [] M) (hv86 : 930 ≤ v86) (hu : u + (930 + v86) ≤ (KL + 939)) (h : B_L_law_591 xs nS k86 x3 x5 M = some 1) : V p l e room_1 (s.setDrawn d0) m #[Value.ref b] below meth c 11 G (1000 + (u)) (100000 + 6 * (u)) (lw_Z below #[Value.ref b] s) 591 [(0, .ref b), (1, .ref (adr G 6 0)), (3, .int x3), (5, .int x5)] [] M := by
  refine V_iload_n hC dL_law_591 rfl 2 rfl ?_
  refine V_bipush hC (7 : Int32) dL_law_592 (by decide) ?_
  refine V_irem hC dL_law_594 (by decide) ?_
  refine V_iconst hC (2 : Int32) dL_law_595 (by decide) ?_
  refine V_icmp_ne hC 606 dL_law_596 (by decide) (fun c33 => ?_) (fun c33 => ?_)
  · have h := ite_f c33 h
    refine V_widen (k := 1000 + (u + 0)) (n := 100000 + 6 * (u + 0)) (by omega) (by omega) ?_
    exact b_L_law_606 hC hr hlk hX hd0 hlt hsc hbl hbA hgA hnS hk86 hv86 (by omega) h
  · have h := ite_t c33 h
    refine V_aload_n hC dL_law_599 rfl 1 rfl ?_
    refine V_widen (k := 1000 + (u + 0)) (n := 100000 + 6 * (u + 0)) (by omega) (by omega) ?_
    obtain ⟨q34, e34, h⟩ := bind_some h
    refine V_cL (K := 929) hC hX [.ref (adr G 6 0)] (c_L_refused (l := l) (rv := q34.1) (Mf := q34.2) hlt hC.2.2.2.2.2.2.2 e34) kd_L_refused gw_958 gw_957 ⟨Nat.le_of_ble_eq_true rfl, Nat.le_of_ble_eq_true rfl⟩ rfl (Nat.le_of_ble_eq_true rfl) dL_law_600 (law_hf (u := u + 0) (k := 929) (by omega)) rfl ?_
    refine V_if_eq hC 610 dL_law_603 (by decide) (fun c35 => ?_) (fun c35 => ?_)
    · have h := ite_t c35 h
      refine V_widen (k := 1000 + (u + 929)) (n := 100000 + 6 * (u + 929)) (by omega) (by omega) ?_
      exact b_L_law_610 hC hr hlk hX hd0 hlt hsc hbl hbA hgA hnS hk86 hv86 (by omega) h
    · have h := ite_f c35 h
      refine V_widen (k := 1000 + (u + 929)) (n := 100000 + 6 * (u + 929)) (by omega) (by omega) ?_
      exact b_L_law_606 hC hr hlk hX hd0 hlt hsc hbl hbA hgA hnS hk86 hv86 (by omega) h
set_option maxRecDepth 100000 in
set_option maxHeartbeats 8000000 in
theorem b_L_law_585 {xs : Nat → Int32} {nS : Nat} {u : Nat} {v86 : Nat} {b : Nat} {d0 : Drawn} {k86 : Int32 → Int32 → Mem → Option Int32} {x3 : Int32} {x5 : Int32} {z0 : Int32} {z1 : Int32} {z2 : Int32} {z3 : Int32} {z4 : Int32} {M : Mem} (hC : Cx p (s.setDrawn d0) m #[Value.ref b] c code RL 11 G) (hr : meth.sig.returnType = ret) (hlk : meth.locks = false) (hX : XF G (s.setDrawn d0)) (hd0 : s.drawn.sameBut d0 lw_cs) (hlt : l.stackTraces = false) (hsc : va_X b nS xs (s.setDrawn d0) (s.setDrawn d0).heap) (hbl : b < (s.setDrawn d0).heap.size) (hbA : ¬ gA G b) (hgA : ∀ q, gA G q → s.heap.size ≤ q) (hnS : nS < 2147483648) (hk86 : ∀ (u : Nat) (x2 : Int32) (x3 : Int32) (M : Mem), u + v86 ≤ (KL + 939) → k86 x2 x3 M = some 1 → V p l e room_1 (s.setDrawn d0) m #[Value.ref b] below meth c 11 G (1000 + (u)) (100000 + 6 * (u)) (lw_Z below #[Value.ref b] s) 86 [(0, .ref b), (1, .ref (adr G 6 0)), (2, .int x2), (3, .int x3)] [] M) (hv86 : 930 ≤ v86) (hu : u + (3272 + v86) ≤ (KL + 939)) (h : B_L_law_585 xs nS k86 x3 x5 z0 z1 z2 z3 z4 M = some 1) : V p l e room_1 (s.setDrawn d0) m #[Value.ref b] below meth c 11 G (1000 + (u)) (100000 + 6 * (u)) (lw_Z below #[Value.ref b] s) 585 [(0, .ref b), (1, .ref (adr G 6 0)), (3, .int x3), (5, .int x5)] [.int z0, .int z1, .int z2, .int z3, .int z4, .ref (adr G 6 0)] M := by
  refine V_widen (k := 1000 + (u + 0)) (n := 100000 + 6 * (u + 0)) (by omega) (by omega) ?_
  obtain ⟨q37, e37, h⟩ := bind_some h
  refine V_cL (K := 2342) hC hX [.ref (adr G 6 0), .int z4, .int z3, .int z2, .int z1, .int z0] (c_L_areOrders (l := l) (rv := q37.1) (Mf := q37.2) hlt hC.2.2.2.2.2.2.2 e37) kd_L_areOrders gw_1175 gw_1174 ⟨Nat.le_of_ble_eq_true rfl, Nat.le_of_ble_eq_true rfl⟩ rfl (Nat.le_of_ble_eq_true rfl) dL_law_585 (law_hf (u := u + 0) (k := 2342) (by omega)) rfl ?_
  refine V_if_eq hC 610 dL_law_588 (by decide) (fun c38 => ?_) (fun c38 => ?_)
  · have h := ite_t c38 h
    refine V_widen (k := 1000 + (u + 2342)) (n := 100000 + 6 * (u + 2342)) (by omega) (by omega) ?_
    exact b_L_law_610 hC hr hlk hX hd0 hlt hsc hbl hbA hgA hnS hk86 hv86 (by omega) h
  · have h := ite_f c38 h
    refine V_widen (k := 1000 + (u + 2342)) (n := 100000 + 6 * (u + 2342)) (by omega) (by omega) ?_
    exact b_L_law_591 hC hr hlk hX hd0 hlt hsc hbl hbA hgA hnS hk86 hv86 (by omega) h
set_option maxRecDepth 100000 in
set_option maxHeartbeats 8000000 in
theorem b_L_law_544 {xs : Nat → Int32} {nS : Nat} {u : Nat} {v86 : Nat} {b : Nat} {d0 : Drawn} {k86 : Int32 → Int32 → Mem → Option Int32} {x3 : Int32} {x4 : Int32} {x5 : Int32} {x6 : Int32} {x7 : Int32} {x8 : Int32} {M : Mem} (hC : Cx p (s.setDrawn d0) m #[Value.ref b] c code RL 11 G) (hr : meth.sig.returnType = ret) (hlk : meth.locks = false) (hX : XF G (s.setDrawn d0)) (hd0 : s.drawn.sameBut d0 lw_cs) (hlt : l.stackTraces = false) (hsc : va_X b nS xs (s.setDrawn d0) (s.setDrawn d0).heap) (hbl : b < (s.setDrawn d0).heap.size) (hbA : ¬ gA G b) (hgA : ∀ q, gA G q → s.heap.size ≤ q) (hnS : nS < 2147483648) (hk86 : ∀ (u : Nat) (x2 : Int32) (x3 : Int32) (M : Mem), u + v86 ≤ (KL + 939) → k86 x2 x3 M = some 1 → V p l e room_1 (s.setDrawn d0) m #[Value.ref b] below meth c 11 G (1000 + (u)) (100000 + 6 * (u)) (lw_Z below #[Value.ref b] s) 86 [(0, .ref b), (1, .ref (adr G 6 0)), (2, .int x2), (3, .int x3)] [] M) (hv86 : 930 ≤ v86) (hu : u + (4206 + v86) ≤ (KL + 939)) (h : B_L_law_544 xs nS k86 x3 x4 x5 x6 x7 x8 M = some 1) : V p l e room_1 (s.setDrawn d0) m #[Value.ref b] below meth c 11 G (1000 + (u)) (100000 + 6 * (u)) (lw_Z below #[Value.ref b] s) 544 [(0, .ref b), (1, .ref (adr G 6 0)), (3, .int x3), (4, .int x4), (5, .int x5), (6, .int x6), (7, .int x7), (8, .int x8)] [] M := by
  refine V_aload_n hC dL_law_544 rfl 1 rfl ?_
  refine V_iload hC dL_law_545 6 rfl ?_
  refine V_widen (k := 1000 + (u + 0)) (n := 100000 + 6 * (u + 0)) (by omega) (by omega) ?_
  obtain ⟨q30, e30, h⟩ := bind_some h
  refine V_cL (K := 934) hC hX [.ref (adr G 6 0), .int x7] (c_L_comesBack (l := l) (rv := q30.1) (Mf := q30.2) hlt hC.2.2.2.2.2.2.2 e30) kd_L_comesBack gw_1169 gw_1168 ⟨Nat.le_of_ble_eq_true rfl, Nat.le_of_ble_eq_true rfl⟩ rfl (Nat.le_of_ble_eq_true rfl) dL_law_547 (law_hf (u := u + 0) (k := 934) (by omega)) rfl ?_
  refine V_if_eq hC 610 dL_law_550 (by decide) (fun c31 => ?_) (fun c31 => ?_)
  · have h := ite_t c31 h
    refine V_sub [0, 1, 2, 4] rfl ?_
    refine V_widen (k := 1000 + (u + 934)) (n := 100000 + 6 * (u + 934)) (by omega) (by omega) ?_
    exact b_L_law_610 hC hr hlk hX hd0 hlt hsc hbl hbA hgA hnS hk86 hv86 (by omega) h
  · have h := ite_f c31 h
    refine V_iload_n hC dL_law_553 rfl 2 rfl ?_
    refine V_iconst hC (4 : Int32) dL_law_554 (by decide) ?_
    refine V_irem hC dL_law_555 (by decide) ?_
    refine V_iconst hC (1 : Int32) dL_law_556 (by decide) ?_
    refine V_icmp_ne hC 591 dL_law_557 (by decide) (fun c32 => ?_) (fun c32 => ?_)
    · have h := ite_f c32 h
      refine V_sub [0, 1, 2, 4] rfl ?_
      refine V_widen (k := 1000 + (u + 934)) (n := 100000 + 6 * (u + 934)) (by omega) (by omega) ?_
      exact b_L_law_591 hC hr hlk hX hd0 hlt hsc hbl hbA hgA hnS hk86 hv86 (by omega) h
    · have h := ite_t c32 h
      refine V_aload_n hC dL_law_560 rfl 1 rfl ?_
      refine V_iload hC dL_law_561 4 rfl ?_
      refine V_iload hC dL_law_563 5 rfl ?_
      refine V_iload hC dL_law_565 6 rfl ?_
      refine V_iload hC dL_law_567 7 rfl ?_
      refine V_iload hC dL_law_569 3 rfl ?_
      refine V_bipush hC (23 : Int32) dL_law_571 (by decide) ?_
      refine V_ishr hC dL_law_573 ?_
      refine V_iconst hC (1 : Int32) dL_law_574 (by decide) ?_
      refine V_iand hC dL_law_575 ?_
      refine V_iconst hC (1 : Int32) dL_law_576 (by decide) ?_
      refine V_icmp_ne hC 584 dL_law_577 (by decide) (fun c36 => ?_) (fun c36 => ?_)
      · have h := ite_f c36 h
        refine V_iconst hC (0 : Int32) dL_law_584 (by decide) ?_
        refine V_sub [0, 1, 2, 4] rfl ?_
        refine V_widen (k := 1000 + (u + 934)) (n := 100000 + 6 * (u + 934)) (by omega) (by omega) ?_
        exact b_L_law_585 hC hr hlk hX hd0 hlt hsc hbl hbA hgA hnS hk86 hv86 (by omega) h
      · have h := ite_t c36 h
        refine V_iconst hC (1 : Int32) dL_law_580 (by decide) ?_
        refine V_goto hC 585 dL_law_581 (by decide) ?_
        refine V_sub [0, 1, 2, 4] rfl ?_
        refine V_widen (k := 1000 + (u + 934)) (n := 100000 + 6 * (u + 934)) (by omega) (by omega) ?_
        exact b_L_law_585 hC hr hlk hX hd0 hlt hsc hbl hbA hgA hnS hk86 hv86 (by omega) h
set_option maxRecDepth 100000 in
set_option maxHeartbeats 8000000 in
theorem b_L_law_526 {xs : Nat → Int32} {nS : Nat} {u : Nat} {v86 : Nat} {b : Nat} {d0 : Drawn} {k86 : Int32 → Int32 → Mem → Option Int32} {x3 : Int32} {x4 : Int32} {x5 : Int32} {x6 : Int32} {x7 : Int32} {x8 : Int32} {z0 : Int32} {M : Mem} (hC : Cx p (s.setDrawn d0) m #[Value.ref b] c code RL 11 G) (hr : meth.sig.returnType = ret) (hlk : meth.locks = false) (hX : XF G (s.setDrawn d0)) (hd0 : s.drawn.sameBut d0 lw_cs) (hlt : l.stackTraces = false) (hsc : va_X b nS xs (s.setDrawn d0) (s.setDrawn d0).heap) (hbl : b < (s.setDrawn d0).heap.size) (hbA : ¬ gA G b) (hgA : ∀ q, gA G q → s.heap.size ≤ q) (hnS : nS < 2147483648) (hk86 : ∀ (u : Nat) (x2 : Int32) (x3 : Int32) (M : Mem), u + v86 ≤ (KL + 939) → k86 x2 x3 M = some 1 → V p l e room_1 (s.setDrawn d0) m #[Value.ref b] below meth c 11 G (1000 + (u)) (100000 + 6 * (u)) (lw_Z below #[Value.ref b] s) 86 [(0, .ref b), (1, .ref (adr G 6 0)), (2, .int x2), (3, .int x3)] [] M) (hv86 : 930 ≤ v86) (hu : u + (5252 + v86) ≤ (KL + 939)) (h : B_L_law_526 xs nS k86 x3 x4 x5 x6 x7 x8 z0 M = some 1) : V p l e room_1 (s.setDrawn d0) m #[Value.ref b] below meth c 11 G (1000 + (u)) (100000 + 6 * (u)) (lw_Z below #[Value.ref b] s) 526 [(0, .ref b), (1, .ref (adr G 6 0)), (3, .int x3), (4, .int x4), (5, .int x5), (6, .int x6), (7, .int x7), (8, .int x8)] [.int z0] M := by
  refine V_istore_n hC ([(2, .int z0), (0, .ref b), (1, .ref (adr G 6 0)), (3, .int x3), (4, .int x4), (5, .int x5), (6, .int x6), (7, .int x7), (8, .int x8)]) dL_law_526 rfl (by decide) rfl ?_
  refine V_iload_n hC dL_law_527 rfl 0 rfl ?_
  refine V_if_eq hC 610 dL_law_528 (by decide) (fun c23 => ?_) (fun c23 => ?_)
  · have h := ite_t c23 h
    refine V_sub [1, 2, 3, 5] rfl ?_
    refine V_widen (k := 1000 + (u + 0)) (n := 100000 + 6 * (u + 0)) (by omega) (by omega) ?_
    exact b_L_law_610 hC hr hlk hX hd0 hlt hsc hbl hbA hgA hnS hk86 hv86 (by omega) h
  · have h := ite_f c23 h
    refine V_iload_n hC dL_law_531 rfl 3 rfl ?_
    refine V_iconst hC (3 : Int32) dL_law_532 (by decide) ?_
    refine V_irem hC dL_law_533 (by decide) ?_
    refine V_if_ne hC 544 dL_law_534 (by decide) (fun c29 => ?_) (fun c29 => ?_)
    · have h := ite_f c29 h
      refine V_sub [1, 2, 3, 4, 5, 6, 7, 8] rfl ?_
      refine V_widen (k := 1000 + (u + 0)) (n := 100000 + 6 * (u + 0)) (by omega) (by omega) ?_
      exact b_L_law_544 hC hr hlk hX hd0 hlt hsc hbl hbA hgA hnS hk86 hv86 (by omega) h
    · have h := ite_t c29 h
      refine V_aload_n hC dL_law_537 rfl 2 rfl ?_
      refine V_widen (k := 1000 + (u + 0)) (n := 100000 + 6 * (u + 0)) (by omega) (by omega) ?_
      obtain ⟨q39, e39, h⟩ := bind_some h
      refine V_cL (K := 1046) hC hX [.ref (adr G 6 0)] (c_L_isGranted (l := l) (rv := q39.1) (Mf := q39.2) hlt hC.2.2.2.2.2.2.2 e39) kd_L_isGranted gw_1166 gw_1165 ⟨Nat.le_of_ble_eq_true rfl, Nat.le_of_ble_eq_true rfl⟩ rfl (Nat.le_of_ble_eq_true rfl) dL_law_538 (law_hf (u := u + 0) (k := 1046) (by omega)) rfl ?_
      refine V_if_eq hC 610 dL_law_541 (by decide) (fun c40 => ?_) (fun c40 => ?_)
      · have h := ite_t c40 h
        refine V_sub [1, 2, 3, 5] rfl ?_
        refine V_widen (k := 1000 + (u + 1046)) (n := 100000 + 6 * (u + 1046)) (by omega) (by omega) ?_
        exact b_L_law_610 hC hr hlk hX hd0 hlt hsc hbl hbA hgA hnS hk86 hv86 (by omega) h
      · have h := ite_f c40 h
        refine V_sub [1, 2, 3, 4, 5, 6, 7, 8] rfl ?_
        refine V_widen (k := 1000 + (u + 1046)) (n := 100000 + 6 * (u + 1046)) (by omega) (by omega) ?_
        exact b_L_law_544 hC hr hlk hX hd0 hlt hsc hbl hbA hgA hnS hk86 hv86 (by omega) h
set_option maxRecDepth 100000 in
set_option maxHeartbeats 8000000 in
theorem b_L_law_525 {xs : Nat → Int32} {nS : Nat} {u : Nat} {v86 : Nat} {b : Nat} {d0 : Drawn} {k86 : Int32 → Int32 → Mem → Option Int32} {x3 : Int32} {x4 : Int32} {x5 : Int32} {x6 : Int32} {x7 : Int32} {x8 : Int32} {M : Mem} (hC : Cx p (s.setDrawn d0) m #[Value.ref b] c code RL 11 G) (hr : meth.sig.returnType = ret) (hlk : meth.locks = false) (hX : XF G (s.setDrawn d0)) (hd0 : s.drawn.sameBut d0 lw_cs) (hlt : l.stackTraces = false) (hsc : va_X b nS xs (s.setDrawn d0) (s.setDrawn d0).heap) (hbl : b < (s.setDrawn d0).heap.size) (hbA : ¬ gA G b) (hgA : ∀ q, gA G q → s.heap.size ≤ q) (hnS : nS < 2147483648) (hk86 : ∀ (u : Nat) (x2 : Int32) (x3 : Int32) (M : Mem), u + v86 ≤ (KL + 939) → k86 x2 x3 M = some 1 → V p l e room_1 (s.setDrawn d0) m #[Value.ref b] below meth c 11 G (1000 + (u)) (100000 + 6 * (u)) (lw_Z below #[Value.ref b] s) 86 [(0, .ref b), (1, .ref (adr G 6 0)), (2, .int x2), (3, .int x3)] [] M) (hv86 : 930 ≤ v86) (hu : u + (5252 + v86) ≤ (KL + 939)) (h : B_L_law_525 xs nS k86 x3 x4 x5 x6 x7 x8 M = some 1) : V p l e room_1 (s.setDrawn d0) m #[Value.ref b] below meth c 11 G (1000 + (u)) (100000 + 6 * (u)) (lw_Z below #[Value.ref b] s) 525 [(0, .ref b), (1, .ref (adr G 6 0)), (3, .int x3), (4, .int x4), (5, .int x5), (6, .int x6), (7, .int x7), (8, .int x8)] [] M := by
  refine V_iconst hC (0 : Int32) dL_law_525 (by decide) ?_
  refine V_widen (k := 1000 + (u + 0)) (n := 100000 + 6 * (u + 0)) (by omega) (by omega) ?_
  exact b_L_law_526 hC hr hlk hX hd0 hlt hsc hbl hbA hgA hnS hk86 hv86 (by omega) h
set_option maxRecDepth 100000 in
set_option maxHeartbeats 8000000 in
theorem b_L_law_490 {xs : Nat → Int32} {nS : Nat} {u : Nat} {v86 : Nat} {b : Nat} {d0 : Drawn} {k86 : Int32 → Int32 → Mem → Option Int32} {x3 : Int32} {x4 : Int32} {x5 : Int32} {x6 : Int32} {x7 : Int32} {x8 : Int32} {M : Mem} (hC : Cx p (s.setDrawn d0) m #[Value.ref b] c code RL 11 G) (hr : meth.sig.returnType = ret) (hlk : meth.locks = false) (hX : XF G (s.setDrawn d0)) (hd0 : s.drawn.sameBut d0 lw_cs) (hlt : l.stackTraces = false) (hsc : va_X b nS xs (s.setDrawn d0) (s.setDrawn d0).heap) (hbl : b < (s.setDrawn d0).heap.size) (hbA : ¬ gA G b) (hgA : ∀ q, gA G q → s.heap.size ≤ q) (hnS : nS < 2147483648) (hk86 : ∀ (u : Nat) (x2 : Int32) (x3 : Int32) (M : Mem), u + v86 ≤ (KL + 939) → k86 x2 x3 M = some 1 → V p l e room_1 (s.setDrawn d0) m #[Value.ref b] below meth c 11 G (1000 + (u)) (100000 + 6 * (u)) (lw_Z below #[Value.ref b] s) 86 [(0, .ref b), (1, .ref (adr G 6 0)), (2, .int x2), (3, .int x3)] [] M) (hv86 : 930 ≤ v86) (hu : u + (14357 + v86) ≤ (KL + 939)) (h : B_L_law_490 xs nS k86 x3 x4 x5 x6 x7 x8 M = some 1) : V p l e room_1 (s.setDrawn d0) m #[Value.ref b] below meth c 11 G (1000 + (u)) (100000 + 6 * (u)) (lw_Z below #[Value.ref b] s) 490 [(0, .ref b), (1, .ref (adr G 6 0)), (3, .int x3), (4, .int x4), (5, .int x5), (6, .int x6), (7, .int x7), (8, .int x8)] [] M := by
  refine V_aload_n hC dL_law_490 rfl 1 rfl ?_
  refine V_widen (k := 1000 + (u + 0)) (n := 100000 + 6 * (u + 0)) (by omega) (by omega) ?_
  obtain ⟨q21, e21, h⟩ := bind_some h
  refine V_cL (K := 6347) hC hX [.ref (adr G 6 0)] (c_L_areApart (l := l) (rv := q21.1) (Mf := q21.2) hlt hC.2.2.2.2.2.2.2 e21) kd_L_areApart gw_1146 gw_1145 ⟨Nat.le_of_ble_eq_true rfl, Nat.le_of_ble_eq_true rfl⟩ rfl (Nat.le_of_ble_eq_true rfl) dL_law_491 (law_hf (u := u + 0) (k := 6347) (by omega)) rfl ?_
  refine V_if_eq hC 525 dL_law_494 (by decide) (fun c22 => ?_) (fun c22 => ?_)
  · have h := ite_t c22 h
    refine V_widen (k := 1000 + (u + 6347)) (n := 100000 + 6 * (u + 6347)) (by omega) (by omega) ?_
    exact b_L_law_525 hC hr hlk hX hd0 hlt hsc hbl hbA hgA hnS hk86 hv86 (by omega) h
  · have h := ite_f c22 h
    refine V_aload_n hC dL_law_497 rfl 1 rfl ?_
    refine V_widen (k := 1000 + (u + 6347)) (n := 100000 + 6 * (u + 6347)) (by omega) (by omega) ?_
    obtain ⟨q41, e41, h⟩ := bind_some h
    refine V_cL (K := 2753) hC hX [.ref (adr G 6 0)] (c_L_isTree (l := l) (rv := q41.1) (Mf := q41.2) hlt hC.2.2.2.2.2.2.2 e41) kd_L_isTree gw_1160 gw_1159 ⟨Nat.le_of_ble_eq_true rfl, Nat.le_of_ble_eq_true rfl⟩ rfl (Nat.le_of_ble_eq_true rfl) dL_law_498 (law_hf (u := u + 6347) (k := 2753) (by omega)) rfl ?_
    refine V_if_eq hC 525 dL_law_501 (by decide) (fun c42 => ?_) (fun c42 => ?_)
    · have h := ite_t c42 h
      refine V_widen (k := 1000 + (u + 9100)) (n := 100000 + 6 * (u + 9100)) (by omega) (by omega) ?_
      exact b_L_law_525 hC hr hlk hX hd0 hlt hsc hbl hbA hgA hnS hk86 hv86 (by omega) h
    · have h := ite_f c42 h
      refine V_aload_n hC dL_law_504 rfl 1 rfl ?_
      refine V_widen (k := 1000 + (u + 9100)) (n := 100000 + 6 * (u + 9100)) (by omega) (by omega) ?_
      obtain ⟨q43, e43, h⟩ := bind_some h
      refine V_cL (K := 0) hC hX [.ref (adr G 6 0)] (c_L_isTold (l := l) (rv := q43.1) (Mf := q43.2) hlt hC.2.2.2.2.2.2.2 e43) kd_L_isTold gw_1163 gw_1162 ⟨Nat.le_of_ble_eq_true rfl, Nat.le_of_ble_eq_true rfl⟩ rfl (Nat.le_of_ble_eq_true rfl) dL_law_505 (law_hf (u := u + 9100) (k := 0) (by omega)) rfl ?_
      refine V_if_eq hC 525 dL_law_508 (by decide) (fun c44 => ?_) (fun c44 => ?_)
      · have h := ite_t c44 h
        refine V_widen (k := 1000 + (u + 9100)) (n := 100000 + 6 * (u + 9100)) (by omega) (by omega) ?_
        exact b_L_law_525 hC hr hlk hX hd0 hlt hsc hbl hbA hgA hnS hk86 hv86 (by omega) h
      · have h := ite_f c44 h
        refine V_aload_n hC dL_law_511 rfl 1 rfl ?_
        refine V_iload hC dL_law_512 5 rfl ?_
        refine V_iconst hC (0 : Int32) dL_law_514 (by decide) ?_
        refine V_widen (k := 1000 + (u + 9100)) (n := 100000 + 6 * (u + 9100)) (by omega) (by omega) ?_
        obtain ⟨q45, e45, h⟩ := bind_some h
        refine V_cL (K := 5) hC hX [.ref (adr G 6 0), .int x6, .int (0 : Int32)] (c_L_isPutBack (l := l) (rv := q45.1) (Mf := q45.2) hlt hC.2.2.2.2.2.2.2 e45) kd_L_isPutBack gw_1172 gw_1171 ⟨Nat.le_of_ble_eq_true rfl, Nat.le_of_ble_eq_true rfl⟩ rfl (Nat.le_of_ble_eq_true rfl) dL_law_515 (law_hf (u := u + 9100) (k := 5) (by omega)) rfl ?_
        refine V_if_eq hC 525 dL_law_518 (by decide) (fun c46 => ?_) (fun c46 => ?_)
        · have h := ite_t c46 h
          refine V_widen (k := 1000 + (u + 9105)) (n := 100000 + 6 * (u + 9105)) (by omega) (by omega) ?_
          exact b_L_law_525 hC hr hlk hX hd0 hlt hsc hbl hbA hgA hnS hk86 hv86 (by omega) h
        · have h := ite_f c46 h
          refine V_iconst hC (1 : Int32) dL_law_521 (by decide) ?_
          refine V_goto hC 526 dL_law_522 (by decide) ?_
          refine V_widen (k := 1000 + (u + 9105)) (n := 100000 + 6 * (u + 9105)) (by omega) (by omega) ?_
          exact b_L_law_526 hC hr hlk hX hd0 hlt hsc hbl hbA hgA hnS hk86 hv86 (by omega) h
set_option maxRecDepth 100000 in
set_option maxHeartbeats 8000000 in
theorem b_L_law_463 {xs : Nat → Int32} {nS : Nat} {u : Nat} {v86 : Nat} {b : Nat} {d0 : Drawn} {k86 : Int32 → Int32 → Mem → Option Int32} {x3 : Int32} {x4 : Int32} {x5 : Int32} {x6 : Int32} {x7 : Int32} {x8 : Int32} {x9 : Int32} {M : Mem} (hC : Cx p (s.setDrawn d0) m #[Value.ref b] c code RL 11 G) (hr : meth.sig.returnType = ret) (hlk : meth.locks = false) (hX : XF G (s.setDrawn d0)) (hd0 : s.drawn.sameBut d0 lw_cs) (hlt : l.stackTraces = false) (hsc : va_X b nS xs (s.setDrawn d0) (s.setDrawn d0).heap) (hbl : b < (s.setDrawn d0).heap.size) (hbA : ¬ gA G b) (hgA : ∀ q, gA G q → s.heap.size ≤ q) (hnS : nS < 2147483648) (hk86 : ∀ (u : Nat) (x2 : Int32) (x3 : Int32) (M : Mem), u + v86 ≤ (KL + 939) → k86 x2 x3 M = some 1 → V p l e room_1 (s.setDrawn d0) m #[Value.ref b] below meth c 11 G (1000 + (u)) (100000 + 6 * (u)) (lw_Z below #[Value.ref b] s) 86 [(0, .ref b), (1, .ref (adr G 6 0)), (2, .int x2), (3, .int x3)] [] M) (hv86 : 930 ≤ v86) (hu : u + (14357 + v86) ≤ (KL + 939)) (h : B_L_law_463 xs nS k86 x3 x4 x5 x6 x7 x8 x9 M = some 1) : V p l e room_1 (s.setDrawn d0) m #[Value.ref b] below meth c 11 G (1000 + (u)) (100000 + 6 * (u)) (lw_Z below #[Value.ref b] s) 463 [(0, .ref b), (1, .ref (adr G 6 0)), (3, .int x3), (4, .int x4), (5, .int x5), (6, .int x6), (7, .int x7), (8, .int x8), (9, .int x9)] [] M := by
  refine V_iload hC dL_law_463 8 rfl ?_
  refine V_iconst hC ((-1) : Int32) dL_law_465 (by decide) ?_
  refine V_icmp_ge hC 490 dL_law_466 (by decide) (fun c20 => ?_) (fun c20 => ?_)
  · have h := ite_t c20 h
    refine V_sub [0, 1, 2, 3, 4, 5, 6, 7] rfl ?_
    refine V_widen (k := 1000 + (u + 0)) (n := 100000 + 6 * (u + 0)) (by omega) (by omega) ?_
    exact b_L_law_490 hC hr hlk hX hd0 hlt hsc hbl hbA hgA hnS hk86 hv86 (by omega) h
  · have h := ite_f c20 h
    refine V_iload hC dL_law_469 8 rfl ?_
    refine V_bipush hC ((-52) : Int32) dL_law_471 (by decide) ?_
    refine V_icmp_eq hC 490 dL_law_473 (by decide) (fun c47 => ?_) (fun c47 => ?_)
    · have h := ite_t c47 h
      refine V_sub [0, 1, 2, 3, 4, 5, 6, 7] rfl ?_
      refine V_widen (k := 1000 + (u + 0)) (n := 100000 + 6 * (u + 0)) (by omega) (by omega) ?_
      exact b_L_law_490 hC hr hlk hX hd0 hlt hsc hbl hbA hgA hnS hk86 hv86 (by omega) h
    · have h := ite_f c47 h
      refine V_iload hC dL_law_476 8 rfl ?_
      refine V_bipush hC ((-53) : Int32) dL_law_478 (by decide) ?_
      refine V_icmp_eq hC 490 dL_law_480 (by decide) (fun c48 => ?_) (fun c48 => ?_)
      · have h := ite_t c48 h
        refine V_sub [0, 1, 2, 3, 4, 5, 6, 7] rfl ?_
        refine V_widen (k := 1000 + (u + 0)) (n := 100000 + 6 * (u + 0)) (by omega) (by omega) ?_
        exact b_L_law_490 hC hr hlk hX hd0 hlt hsc hbl hbA hgA hnS hk86 hv86 (by omega) h
      · have h := ite_f c48 h
        refine V_iload hC dL_law_483 8 rfl ?_
        refine V_bipush hC ((-51) : Int32) dL_law_485 (by decide) ?_
        refine V_icmp_ne hC 525 dL_law_487 (by decide) (fun c49 => ?_) (fun c49 => ?_)
        · have h := ite_f c49 h
          refine V_sub [0, 1, 2, 3, 4, 5, 6, 7] rfl ?_
          refine V_widen (k := 1000 + (u + 0)) (n := 100000 + 6 * (u + 0)) (by omega) (by omega) ?_
          exact b_L_law_525 hC hr hlk hX hd0 hlt hsc hbl hbA hgA hnS hk86 hv86 (by omega) h
        · have h := ite_t c49 h
          refine V_sub [0, 1, 2, 3, 4, 5, 6, 7] rfl ?_
          refine V_widen (k := 1000 + (u + 0)) (n := 100000 + 6 * (u + 0)) (by omega) (by omega) ?_
          exact b_L_law_490 hC hr hlk hX hd0 hlt hsc hbl hbA hgA hnS hk86 hv86 (by omega) h
set_option maxRecDepth 100000 in
set_option maxHeartbeats 8000000 in
theorem b_L_law_252 {xs : Nat → Int32} {nS : Nat} {u : Nat} {v86 : Nat} {b : Nat} {d0 : Drawn} {k86 : Int32 → Int32 → Mem → Option Int32} {x3 : Int32} {x4 : Int32} {x5 : Int32} {x6 : Int32} {x7 : Int32} {x8 : Int32} {z0 : Int32} {z1 : Int32} {z2 : Int32} {z3 : Int32} {M : Mem} (hC : Cx p (s.setDrawn d0) m #[Value.ref b] c code RL 11 G) (hr : meth.sig.returnType = ret) (hlk : meth.locks = false) (hX : XF G (s.setDrawn d0)) (hd0 : s.drawn.sameBut d0 lw_cs) (hlt : l.stackTraces = false) (hsc : va_X b nS xs (s.setDrawn d0) (s.setDrawn d0).heap) (hbl : b < (s.setDrawn d0).heap.size) (hbA : ¬ gA G b) (hgA : ∀ q, gA G q → s.heap.size ≤ q) (hnS : nS < 2147483648) (hk86 : ∀ (u : Nat) (x2 : Int32) (x3 : Int32) (M : Mem), u + v86 ≤ (KL + 939) → k86 x2 x3 M = some 1 → V p l e room_1 (s.setDrawn d0) m #[Value.ref b] below meth c 11 G (1000 + (u)) (100000 + 6 * (u)) (lw_Z below #[Value.ref b] s) 86 [(0, .ref b), (1, .ref (adr G 6 0)), (2, .int x2), (3, .int x3)] [] M) (hv86 : 930 ≤ v86) (hu : u + (14358 + v86) ≤ (KL + 939)) (h : B_L_law_252 xs nS k86 x3 x4 x5 x6 x7 x8 z0 z1 z2 z3 M = some 1) : V p l e room_1 (s.setDrawn d0) m #[Value.ref b] below meth c 11 G (1000 + (u)) (100000 + 6 * (u)) (lw_Z below #[Value.ref b] s) 252 [(0, .ref b), (1, .ref (adr G 6 0)), (3, .int x3), (4, .int x4), (5, .int x5), (6, .int x6), (7, .int x7), (8, .int x8)] [.int z0, .int z1, .int z2, .int z3, .ref (adr G 6 0)] M := by
  refine V_widen (k := 1000 + (u + 0)) (n := 100000 + 6 * (u + 0)) (by omega) (by omega) ?_
  obtain ⟨q19, e19, h⟩ := bind_some h
  refine V_cW hC hX [.ref (adr G 6 0), .int z3, .int z2, .int z1, .int z0] (c_L_request (l := l) (rv := q19.1) (Mf := q19.2) hlt hC.2.2.2.2.2.2.2 e19) kx_L_request gw_601 gw_600 ⟨Nat.le_of_ble_eq_true rfl, Nat.le_of_ble_eq_true rfl⟩ rfl (Nat.le_of_ble_eq_true rfl) dL_law_252 (law_hf (u := u + 0) (k := 1) (by omega)) rfl ?_
  refine V_istore hC ([(9, .int q19.1), (0, .ref b), (1, .ref (adr G 6 0)), (3, .int x3), (4, .int x4), (5, .int x5), (6, .int x6), (7, .int x7), (8, .int x8)]) dL_law_255 (by decide) rfl ?_
  refine V_goto hC 463 dL_law_257 (by decide) ?_
  refine V_sub [1, 2, 3, 4, 5, 6, 7, 8, 0] rfl ?_
  refine V_widen (k := 1000 + (u + 1)) (n := 100000 + 6 * (u + 1)) (by omega) (by omega) ?_
  exact b_L_law_463 hC hr hlk hX hd0 hlt hsc hbl hbA hgA hnS hk86 hv86 (by omega) h
set_option maxRecDepth 100000 in
set_option maxHeartbeats 8000000 in
theorem b_L_law_340 {xs : Nat → Int32} {nS : Nat} {u : Nat} {v86 : Nat} {b : Nat} {d0 : Drawn} {k86 : Int32 → Int32 → Mem → Option Int32} {x3 : Int32} {x4 : Int32} {x5 : Int32} {x6 : Int32} {x7 : Int32} {x8 : Int32} {z0 : Int32} {M : Mem} (hC : Cx p (s.setDrawn d0) m #[Value.ref b] c code RL 11 G) (hr : meth.sig.returnType = ret) (hlk : meth.locks = false) (hX : XF G (s.setDrawn d0)) (hd0 : s.drawn.sameBut d0 lw_cs) (hlt : l.stackTraces = false) (hsc : va_X b nS xs (s.setDrawn d0) (s.setDrawn d0).heap) (hbl : b < (s.setDrawn d0).heap.size) (hbA : ¬ gA G b) (hgA : ∀ q, gA G q → s.heap.size ≤ q) (hnS : nS < 2147483648) (hk86 : ∀ (u : Nat) (x2 : Int32) (x3 : Int32) (M : Mem), u + v86 ≤ (KL + 939) → k86 x2 x3 M = some 1 → V p l e room_1 (s.setDrawn d0) m #[Value.ref b] below meth c 11 G (1000 + (u)) (100000 + 6 * (u)) (lw_Z below #[Value.ref b] s) 86 [(0, .ref b), (1, .ref (adr G 6 0)), (2, .int x2), (3, .int x3)] [] M) (hv86 : 930 ≤ v86) (hu : u + (14357 + v86) ≤ (KL + 939)) (h : B_L_law_340 xs nS k86 x3 x4 x5 x6 x7 x8 z0 M = some 1) : V p l e room_1 (s.setDrawn d0) m #[Value.ref b] below meth c 11 G (1000 + (u)) (100000 + 6 * (u)) (lw_Z below #[Value.ref b] s) 340 [(0, .ref b), (1, .ref (adr G 6 0)), (3, .int x3), (4, .int x4), (5, .int x5), (6, .int x6), (7, .int x7), (8, .int x8)] [.int z0] M := by
  refine V_istore hC ([(9, .int z0), (0, .ref b), (1, .ref (adr G 6 0)), (3, .int x3), (4, .int x4), (5, .int x5), (6, .int x6), (7, .int x7), (8, .int x8)]) dL_law_340 (by decide) rfl ?_
  refine V_goto hC 463 dL_law_342 (by decide) ?_
  refine V_sub [1, 2, 3, 4, 5, 6, 7, 8, 0] rfl ?_
  refine V_widen (k := 1000 + (u + 0)) (n := 100000 + 6 * (u + 0)) (by omega) (by omega) ?_
  exact b_L_law_463 hC hr hlk hX hd0 hlt hsc hbl hbA hgA hnS hk86 hv86 (by omega) h
set_option maxRecDepth 100000 in
set_option maxHeartbeats 8000000 in
theorem b_L_law_378 {xs : Nat → Int32} {nS : Nat} {u : Nat} {v86 : Nat} {b : Nat} {d0 : Drawn} {k86 : Int32 → Int32 → Mem → Option Int32} {x3 : Int32} {x4 : Int32} {x5 : Int32} {x6 : Int32} {x7 : Int32} {x8 : Int32} {z0 : Int32} {M : Mem} (hC : Cx p (s.setDrawn d0) m #[Value.ref b] c code RL 11 G) (hr : meth.sig.returnType = ret) (hlk : meth.locks = false) (hX : XF G (s.setDrawn d0)) (hd0 : s.drawn.sameBut d0 lw_cs) (hlt : l.stackTraces = false) (hsc : va_X b nS xs (s.setDrawn d0) (s.setDrawn d0).heap) (hbl : b < (s.setDrawn d0).heap.size) (hbA : ¬ gA G b) (hgA : ∀ q, gA G q → s.heap.size ≤ q) (hnS : nS < 2147483648) (hk86 : ∀ (u : Nat) (x2 : Int32) (x3 : Int32) (M : Mem), u + v86 ≤ (KL + 939) → k86 x2 x3 M = some 1 → V p l e room_1 (s.setDrawn d0) m #[Value.ref b] below meth c 11 G (1000 + (u)) (100000 + 6 * (u)) (lw_Z below #[Value.ref b] s) 86 [(0, .ref b), (1, .ref (adr G 6 0)), (2, .int x2), (3, .int x3)] [] M) (hv86 : 930 ≤ v86) (hu : u + (14357 + v86) ≤ (KL + 939)) (h : B_L_law_378 xs nS k86 x3 x4 x5 x6 x7 x8 z0 M = some 1) : V p l e room_1 (s.setDrawn d0) m #[Value.ref b] below meth c 11 G (1000 + (u)) (100000 + 6 * (u)) (lw_Z below #[Value.ref b] s) 378 [(0, .ref b), (1, .ref (adr G 6 0)), (3, .int x3), (4, .int x4), (5, .int x5), (6, .int x6), (7, .int x7), (8, .int x8)] [.int z0] M := by
  refine V_istore hC ([(9, .int z0), (0, .ref b), (1, .ref (adr G 6 0)), (3, .int x3), (4, .int x4), (5, .int x5), (6, .int x6), (7, .int x7), (8, .int x8)]) dL_law_378 (by decide) rfl ?_
  refine V_goto hC 463 dL_law_380 (by decide) ?_
  refine V_sub [1, 2, 3, 4, 5, 6, 7, 8, 0] rfl ?_
  refine V_widen (k := 1000 + (u + 0)) (n := 100000 + 6 * (u + 0)) (by omega) (by omega) ?_
  exact b_L_law_463 hC hr hlk hX hd0 hlt hsc hbl hbA hgA hnS hk86 hv86 (by omega) h
set_option maxRecDepth 100000 in
set_option maxHeartbeats 8000000 in
theorem b_L_law_411 {xs : Nat → Int32} {nS : Nat} {u : Nat} {v86 : Nat} {b : Nat} {d0 : Drawn} {k86 : Int32 → Int32 → Mem → Option Int32} {x3 : Int32} {x4 : Int32} {x5 : Int32} {x6 : Int32} {x7 : Int32} {x8 : Int32} {z0 : Int32} {M : Mem} (hC : Cx p (s.setDrawn d0) m #[Value.ref b] c code RL 11 G) (hr : meth.sig.returnType = ret) (hlk : meth.locks = false) (hX : XF G (s.setDrawn d0)) (hd0 : s.drawn.sameBut d0 lw_cs) (hlt : l.stackTraces = false) (hsc : va_X b nS xs (s.setDrawn d0) (s.setDrawn d0).heap) (hbl : b < (s.setDrawn d0).heap.size) (hbA : ¬ gA G b) (hgA : ∀ q, gA G q → s.heap.size ≤ q) (hnS : nS < 2147483648) (hk86 : ∀ (u : Nat) (x2 : Int32) (x3 : Int32) (M : Mem), u + v86 ≤ (KL + 939) → k86 x2 x3 M = some 1 → V p l e room_1 (s.setDrawn d0) m #[Value.ref b] below meth c 11 G (1000 + (u)) (100000 + 6 * (u)) (lw_Z below #[Value.ref b] s) 86 [(0, .ref b), (1, .ref (adr G 6 0)), (2, .int x2), (3, .int x3)] [] M) (hv86 : 930 ≤ v86) (hu : u + (14357 + v86) ≤ (KL + 939)) (h : B_L_law_411 xs nS k86 x3 x4 x5 x6 x7 x8 z0 M = some 1) : V p l e room_1 (s.setDrawn d0) m #[Value.ref b] below meth c 11 G (1000 + (u)) (100000 + 6 * (u)) (lw_Z below #[Value.ref b] s) 411 [(0, .ref b), (1, .ref (adr G 6 0)), (3, .int x3), (4, .int x4), (5, .int x5), (6, .int x6), (7, .int x7), (8, .int x8)] [.int z0] M := by
  refine V_istore hC ([(9, .int z0), (0, .ref b), (1, .ref (adr G 6 0)), (3, .int x3), (4, .int x4), (5, .int x5), (6, .int x6), (7, .int x7), (8, .int x8)]) dL_law_411 (by decide) rfl ?_
  refine V_goto hC 463 dL_law_413 (by decide) ?_
  refine V_sub [1, 2, 3, 4, 5, 6, 7, 8, 0] rfl ?_
  refine V_widen (k := 1000 + (u + 0)) (n := 100000 + 6 * (u + 0)) (by omega) (by omega) ?_
  exact b_L_law_463 hC hr hlk hX hd0 hlt hsc hbl hbA hgA hnS hk86 hv86 (by omega) h
set_option maxRecDepth 100000 in
set_option maxHeartbeats 8000000 in
theorem b_L_law_449 {xs : Nat → Int32} {nS : Nat} {u : Nat} {v86 : Nat} {b : Nat} {d0 : Drawn} {k86 : Int32 → Int32 → Mem → Option Int32} {x3 : Int32} {x4 : Int32} {x5 : Int32} {x6 : Int32} {x7 : Int32} {x8 : Int32} {z0 : Int32} {M : Mem} (hC : Cx p (s.setDrawn d0) m #[Value.ref b] c code RL 11 G) (hr : meth.sig.returnType = ret) (hlk : meth.locks = false) (hX : XF G (s.setDrawn d0)) (hd0 : s.drawn.sameBut d0 lw_cs) (hlt : l.stackTraces = false) (hsc : va_X b nS xs (s.setDrawn d0) (s.setDrawn d0).heap) (hbl : b < (s.setDrawn d0).heap.size) (hbA : ¬ gA G b) (hgA : ∀ q, gA G q → s.heap.size ≤ q) (hnS : nS < 2147483648) (hk86 : ∀ (u : Nat) (x2 : Int32) (x3 : Int32) (M : Mem), u + v86 ≤ (KL + 939) → k86 x2 x3 M = some 1 → V p l e room_1 (s.setDrawn d0) m #[Value.ref b] below meth c 11 G (1000 + (u)) (100000 + 6 * (u)) (lw_Z below #[Value.ref b] s) 86 [(0, .ref b), (1, .ref (adr G 6 0)), (2, .int x2), (3, .int x3)] [] M) (hv86 : 930 ≤ v86) (hu : u + (14357 + v86) ≤ (KL + 939)) (h : B_L_law_449 xs nS k86 x3 x4 x5 x6 x7 x8 z0 M = some 1) : V p l e room_1 (s.setDrawn d0) m #[Value.ref b] below meth c 11 G (1000 + (u)) (100000 + 6 * (u)) (lw_Z below #[Value.ref b] s) 449 [(0, .ref b), (1, .ref (adr G 6 0)), (3, .int x3), (4, .int x4), (5, .int x5), (6, .int x6), (7, .int x7), (8, .int x8)] [.int z0] M := by
  refine V_istore hC ([(9, .int z0), (0, .ref b), (1, .ref (adr G 6 0)), (3, .int x3), (4, .int x4), (5, .int x5), (6, .int x6), (7, .int x7), (8, .int x8)]) dL_law_449 (by decide) rfl ?_
  refine V_goto hC 463 dL_law_451 (by decide) ?_
  refine V_sub [1, 2, 3, 4, 5, 6, 7, 8, 0] rfl ?_
  refine V_widen (k := 1000 + (u + 0)) (n := 100000 + 6 * (u + 0)) (by omega) (by omega) ?_
  exact b_L_law_463 hC hr hlk hX hd0 hlt hsc hbl hbA hgA hnS hk86 hv86 (by omega) h
set_option maxRecDepth 100000 in
set_option maxHeartbeats 8000000 in
theorem l_L_law_86 {xs : Nat → Int32} {nS : Nat} {b : Nat} {d0 : Drawn} (hC : Cx p (s.setDrawn d0) m #[Value.ref b] c code RL 11 G) (hr : meth.sig.returnType = ret) (hlk : meth.locks = false) (hX : XF G (s.setDrawn d0)) (hd0 : s.drawn.sameBut d0 lw_cs) (hlt : l.stackTraces = false) (hsc : va_X b nS xs (s.setDrawn d0) (s.setDrawn d0).heap) (hbl : b < (s.setDrawn d0).heap.size) (hbA : ¬ gA G b) (hgA : ∀ q, gA G q → s.heap.size ≤ q) (hnS : nS < 2147483648) : ∀ (n : Nat) {u : Nat} {x2 : Int32} {x3 : Int32} {M : Mem} (hu : u + (14358 * n + (930)) ≤ (KL + 939)) (h : L_L_law_86 xs nS n x2 x3 M = some 1), V p l e room_1 (s.setDrawn d0) m #[Value.ref b] below meth c 11 G (1000 + (u)) (100000 + 6 * (u)) (lw_Z below #[Value.ref b] s) 86 [(0, .ref b), (1, .ref (adr G 6 0)), (2, .int x2), (3, .int x3)] [] M := by
  intro n
  induction n with
  | zero => intro u x2 x3 M hu h; cases h
  | succ n ih =>
    intro u x2 x3 M hu h
    rw [Nat.mul_succ] at hu
    obtain ⟨v86, ev86⟩ : ∃ v, v = 14358 * n + (930) := ⟨_, rfl⟩
    have hv86 : 930 ≤ v86 := by rw [ev86]; exact Nat.le_add_left _ _
    have hk86 : ∀ (u : Nat) (x2 : Int32) (x3 : Int32) (M : Mem), u + v86 ≤ (KL + 939) → L_L_law_86 xs nS n x2 x3 M = some 1 → V p l e room_1 (s.setDrawn d0) m #[Value.ref b] below meth c 11 G (1000 + (u)) (100000 + 6 * (u)) (lw_Z below #[Value.ref b] s) 86 [(0, .ref b), (1, .ref (adr G 6 0)), (2, .int x2), (3, .int x3)] [] M := fun _ _ _ _ hw z => ih (by rw [← ev86]; exact hw) z
    have hu : u + 14358 + v86 ≤ (KL + 939) := bud hu ev86
    clear ih ev86
    refine V_iload_n hC dL_law_86 rfl 3 rfl ?_
    refine V_bipush hC (22 : Int32) dL_law_87 (by decide) ?_
    refine V_icmp_ge hC 655 dL_law_89 (by decide) (fun c4 => ?_) (fun c4 => ?_)
    · have h := ite_t c4 h
      refine V_sub [1, 2] rfl ?_
      refine V_widen (k := 1000 + (u + 0)) (n := 100000 + 6 * (u + 0)) (by omega) (by omega) ?_
      exact b_L_law_655 hC hr hlk hX hd0 hlt hsc hbl hbA hgA hnS (by omega) h
    · have h := ite_f c4 h
      refine V_iload_n hC dL_law_92 rfl 2 rfl ?_
      refine V_if_eq hC 655 dL_law_93 (by decide) (fun c10 => ?_) (fun c10 => ?_)
      · have h := ite_t c10 h
        refine V_sub [1, 2] rfl ?_
        refine V_widen (k := 1000 + (u + 0)) (n := 100000 + 6 * (u + 0)) (by omega) (by omega) ?_
        exact b_L_law_655 hC hr hlk hX hd0 hlt hsc hbl hbA hgA hnS (by omega) h
      · have h := ite_f c10 h
        refine V_aload_n hC dL_law_96 rfl 0 rfl ?_
        refine V_iload_n hC dL_law_97 rfl 3 rfl ?_
        refine V_widen (k := 1000 + (u + 0)) (n := 100000 + 6 * (u + 0)) (by omega) (by omega) ?_
        obtain ⟨c80, h⟩ := ite_some h
        refine V_cell hC hnS c80 hsc hbl hbA kd_L_cell gw_228 gw_227 dL_law_98 ⟨Nat.le_of_ble_eq_true rfl, Nat.le_of_ble_eq_true rfl⟩ (Nat.le_of_ble_eq_true rfl) (law_hf (u := u + 0) (k := 0) (by omega)) ?_
        refine V_istore hC ([(4, .int (cellv xs nS x3)), (0, .ref b), (1, .ref (adr G 6 0)), (2, .int x2), (3, .int x3)]) dL_law_101 (by decide) rfl ?_
        refine V_iload hC dL_law_103 0 rfl ?_
        refine V_iconst hC (5 : Int32) dL_law_105 (by decide) ?_
        refine V_ishr hC dL_law_106 ?_
        refine V_bipush hC (6 : Int32) dL_law_107 (by decide) ?_
        refine V_widen (k := 1000 + (u + 0)) (n := 100000 + 6 * (u + 0)) (by omega) (by omega) ?_
        obtain ⟨q12, e12, h⟩ := bind_some h
        refine V_cSr hC [.int ((cellv xs nS x3) >>> ((5 : Int32) &&& 31)), .int (6 : Int32)] (c_L_low (l := l) hC.2.2.2.2.2.2.2 e12) kd_L_low gw_232 gw_231 ⟨Nat.le_of_ble_eq_true rfl, Nat.le_of_ble_eq_true rfl⟩ rfl (Nat.le_of_ble_eq_true rfl) dL_law_109 (law_hf (u := u + 0) (k := 0) (by omega)) rfl ?_
        refine V_istore hC ([(5, .int q12), (4, .int (cellv xs nS x3)), (0, .ref b), (1, .ref (adr G 6 0)), (2, .int x2), (3, .int x3)]) dL_law_112 (by decide) rfl ?_
        refine V_iload hC dL_law_114 1 rfl ?_
        refine V_bipush hC (8 : Int32) dL_law_116 (by decide) ?_
        refine V_ishr hC dL_law_118 ?_
        refine V_bipush hC (8 : Int32) dL_law_119 (by decide) ?_
        refine V_widen (k := 1000 + (u + 0)) (n := 100000 + 6 * (u + 0)) (by omega) (by omega) ?_
        obtain ⟨q13, e13, h⟩ := bind_some h
        refine V_cSr hC [.int ((cellv xs nS x3) >>> ((8 : Int32) &&& 31)), .int (8 : Int32)] (c_L_low (l := l) hC.2.2.2.2.2.2.2 e13) kd_L_low gw_232 gw_231 ⟨Nat.le_of_ble_eq_true rfl, Nat.le_of_ble_eq_true rfl⟩ rfl (Nat.le_of_ble_eq_true rfl) dL_law_121 (law_hf (u := u + 0) (k := 0) (by omega)) rfl ?_
        refine V_istore hC ([(6, .int q13), (5, .int q12), (4, .int (cellv xs nS x3)), (0, .ref b), (1, .ref (adr G 6 0)), (2, .int x2), (3, .int x3)]) dL_law_124 (by decide) rfl ?_
        refine V_iload hC dL_law_126 2 rfl ?_
        refine V_bipush hC (11 : Int32) dL_law_128 (by decide) ?_
        refine V_ishr hC dL_law_130 ?_
        refine V_bipush hC (6 : Int32) dL_law_131 (by decide) ?_
        refine V_widen (k := 1000 + (u + 0)) (n := 100000 + 6 * (u + 0)) (by omega) (by omega) ?_
        obtain ⟨q14, e14, h⟩ := bind_some h
        refine V_cSr hC [.int ((cellv xs nS x3) >>> ((11 : Int32) &&& 31)), .int (6 : Int32)] (c_L_low (l := l) hC.2.2.2.2.2.2.2 e14) kd_L_low gw_232 gw_231 ⟨Nat.le_of_ble_eq_true rfl, Nat.le_of_ble_eq_true rfl⟩ rfl (Nat.le_of_ble_eq_true rfl) dL_law_133 (law_hf (u := u + 0) (k := 0) (by omega)) rfl ?_
        refine V_istore hC ([(7, .int q14), (6, .int q13), (5, .int q12), (4, .int (cellv xs nS x3)), (0, .ref b), (1, .ref (adr G 6 0)), (2, .int x2), (3, .int x3)]) dL_law_136 (by decide) rfl ?_
        refine V_iload hC dL_law_138 3 rfl ?_
        refine V_bipush hC (14 : Int32) dL_law_140 (by decide) ?_
        refine V_ishr hC dL_law_142 ?_
        refine V_sipush hC (1000 : Int32) dL_law_143 (by decide) ?_
        refine V_widen (k := 1000 + (u + 0)) (n := 100000 + 6 * (u + 0)) (by omega) (by omega) ?_
        obtain ⟨q15, e15, h⟩ := bind_some h
        refine V_cSr hC [.int ((cellv xs nS x3) >>> ((14 : Int32) &&& 31)), .int (1000 : Int32)] (c_L_low (l := l) hC.2.2.2.2.2.2.2 e15) kd_L_low gw_232 gw_231 ⟨Nat.le_of_ble_eq_true rfl, Nat.le_of_ble_eq_true rfl⟩ rfl (Nat.le_of_ble_eq_true rfl) dL_law_146 (law_hf (u := u + 0) (k := 0) (by omega)) rfl ?_
        refine V_istore hC ([(8, .int q15), (7, .int q14), (6, .int q13), (5, .int q12), (4, .int (cellv xs nS x3)), (0, .ref b), (1, .ref (adr G 6 0)), (2, .int x2), (3, .int x3)]) dL_law_149 (by decide) rfl ?_
        refine V_iconst hC (0 : Int32) dL_law_151 (by decide) ?_
        refine V_istore hC ([(9, .int (0 : Int32)), (8, .int q15), (7, .int q14), (6, .int q13), (5, .int q12), (4, .int (cellv xs nS x3)), (0, .ref b), (1, .ref (adr G 6 0)), (2, .int x2), (3, .int x3)]) dL_law_152 (by decide) rfl ?_
        refine V_iload hC dL_law_154 5 rfl ?_
        refine V_bipush hC (13 : Int32) dL_law_156 (by decide) ?_
        refine V_widen (k := 1000 + (u + 0)) (n := 100000 + 6 * (u + 0)) (by omega) (by omega) ?_
        obtain ⟨q16, e16, h⟩ := bind_some h
        refine V_cSr hC [.int (cellv xs nS x3), .int (13 : Int32)] (c_L_low (l := l) hC.2.2.2.2.2.2.2 e16) kd_L_low gw_232 gw_231 ⟨Nat.le_of_ble_eq_true rfl, Nat.le_of_ble_eq_true rfl⟩ rfl (Nat.le_of_ble_eq_true rfl) dL_law_158 (law_hf (u := u + 0) (k := 0) (by omega)) rfl ?_
        by_cases c17 : q16 = (0 : Int32)
        · have h := ite_t c17 h
          refine V_tableIn hC 0 224 dL_law_161 (by rw [c17]; decide) (by decide) rfl (by decide) ?_
          refine V_aload_n hC dL_law_224 rfl 7 rfl ?_
          refine V_iload hC dL_law_225 4 rfl ?_
          refine V_iload hC dL_law_227 3 rfl ?_
          refine V_iconst hC (1 : Int32) dL_law_229 (by decide) ?_
          refine V_iload hC dL_law_230 1 rfl ?_
          refine V_bipush hC (30 : Int32) dL_law_232 (by decide) ?_
          refine V_irem hC dL_law_234 (by decide) ?_
          refine V_iadd hC dL_law_235 ?_
          refine V_iload hC dL_law_236 5 rfl ?_
          refine V_bipush hC (24 : Int32) dL_law_238 (by decide) ?_
          refine V_ishr hC dL_law_240 ?_
          refine V_iconst hC (1 : Int32) dL_law_241 (by decide) ?_
          refine V_iand hC dL_law_242 ?_
          refine V_iconst hC (1 : Int32) dL_law_243 (by decide) ?_
          refine V_icmp_ne hC 251 dL_law_244 (by decide) (fun c18 => ?_) (fun c18 => ?_)
          · have h := ite_f c18 h
            refine V_iconst hC (0 : Int32) dL_law_251 (by decide) ?_
            refine V_sub [6, 7, 9, 5, 4, 3, 2, 1] rfl ?_
            refine V_widen (k := 1000 + (u + 0)) (n := 100000 + 6 * (u + 0)) (by omega) (by omega) ?_
            exact b_L_law_252 hC hr hlk hX hd0 hlt hsc hbl hbA hgA hnS hk86 hv86 (by omega) h
          · have h := ite_t c18 h
            refine V_iconst hC (1 : Int32) dL_law_247 (by decide) ?_
            refine V_goto hC 252 dL_law_248 (by decide) ?_
            refine V_sub [6, 7, 9, 5, 4, 3, 2, 1] rfl ?_
            refine V_widen (k := 1000 + (u + 0)) (n := 100000 + 6 * (u + 0)) (by omega) (by omega) ?_
            exact b_L_law_252 hC hr hlk hX hd0 hlt hsc hbl hbA hgA hnS hk86 hv86 (by omega) h
        have h := ite_f c17 h
        by_cases c50 : q16 = (1 : Int32)
        · have h := ite_t c50 h
          refine V_tableIn hC 1 224 dL_law_161 (by rw [c50]; decide) (by decide) rfl (by decide) ?_
          refine V_aload_n hC dL_law_224 rfl 7 rfl ?_
          refine V_iload hC dL_law_225 4 rfl ?_
          refine V_iload hC dL_law_227 3 rfl ?_
          refine V_iconst hC (1 : Int32) dL_law_229 (by decide) ?_
          refine V_iload hC dL_law_230 1 rfl ?_
          refine V_bipush hC (30 : Int32) dL_law_232 (by decide) ?_
          refine V_irem hC dL_law_234 (by decide) ?_
          refine V_iadd hC dL_law_235 ?_
          refine V_iload hC dL_law_236 5 rfl ?_
          refine V_bipush hC (24 : Int32) dL_law_238 (by decide) ?_
          refine V_ishr hC dL_law_240 ?_
          refine V_iconst hC (1 : Int32) dL_law_241 (by decide) ?_
          refine V_iand hC dL_law_242 ?_
          refine V_iconst hC (1 : Int32) dL_law_243 (by decide) ?_
          refine V_icmp_ne hC 251 dL_law_244 (by decide) (fun c51 => ?_) (fun c51 => ?_)
          · have h := ite_f c51 h
            refine V_iconst hC (0 : Int32) dL_law_251 (by decide) ?_
            refine V_sub [6, 7, 9, 5, 4, 3, 2, 1] rfl ?_
            refine V_widen (k := 1000 + (u + 0)) (n := 100000 + 6 * (u + 0)) (by omega) (by omega) ?_
            exact b_L_law_252 hC hr hlk hX hd0 hlt hsc hbl hbA hgA hnS hk86 hv86 (by omega) h
          · have h := ite_t c51 h
            refine V_iconst hC (1 : Int32) dL_law_247 (by decide) ?_
            refine V_goto hC 252 dL_law_248 (by decide) ?_
            refine V_sub [6, 7, 9, 5, 4, 3, 2, 1] rfl ?_
            refine V_widen (k := 1000 + (u + 0)) (n := 100000 + 6 * (u + 0)) (by omega) (by omega) ?_
            exact b_L_law_252 hC hr hlk hX hd0 hlt hsc hbl hbA hgA hnS hk86 hv86 (by omega) h
        have h := ite_f c50 h
        by_cases c52 : q16 = (2 : Int32)
        · have h := ite_t c52 h
          refine V_tableIn hC 2 224 dL_law_161 (by rw [c52]; decide) (by decide) rfl (by decide) ?_
          refine V_aload_n hC dL_law_224 rfl 7 rfl ?_
          refine V_iload hC dL_law_225 4 rfl ?_
          refine V_iload hC dL_law_227 3 rfl ?_
          refine V_iconst hC (1 : Int32) dL_law_229 (by decide) ?_
          refine V_iload hC dL_law_230 1 rfl ?_
          refine V_bipush hC (30 : Int32) dL_law_232 (by decide) ?_
          refine V_irem hC dL_law_234 (by decide) ?_
          refine V_iadd hC dL_law_235 ?_
          refine V_iload hC dL_law_236 5 rfl ?_
          refine V_bipush hC (24 : Int32) dL_law_238 (by decide) ?_
          refine V_ishr hC dL_law_240 ?_
          refine V_iconst hC (1 : Int32) dL_law_241 (by decide) ?_
          refine V_iand hC dL_law_242 ?_
          refine V_iconst hC (1 : Int32) dL_law_243 (by decide) ?_
          refine V_icmp_ne hC 251 dL_law_244 (by decide) (fun c53 => ?_) (fun c53 => ?_)
          · have h := ite_f c53 h
            refine V_iconst hC (0 : Int32) dL_law_251 (by decide) ?_
            refine V_sub [6, 7, 9, 5, 4, 3, 2, 1] rfl ?_
            refine V_widen (k := 1000 + (u + 0)) (n := 100000 + 6 * (u + 0)) (by omega) (by omega) ?_
            exact b_L_law_252 hC hr hlk hX hd0 hlt hsc hbl hbA hgA hnS hk86 hv86 (by omega) h
          · have h := ite_t c53 h
            refine V_iconst hC (1 : Int32) dL_law_247 (by decide) ?_
            refine V_goto hC 252 dL_law_248 (by decide) ?_
            refine V_sub [6, 7, 9, 5, 4, 3, 2, 1] rfl ?_
            refine V_widen (k := 1000 + (u + 0)) (n := 100000 + 6 * (u + 0)) (by omega) (by omega) ?_
            exact b_L_law_252 hC hr hlk hX hd0 hlt hsc hbl hbA hgA hnS hk86 hv86 (by omega) h
        have h := ite_f c52 h
        by_cases c54 : q16 = (3 : Int32)
        · have h := ite_t c54 h
          refine V_tableIn hC 3 224 dL_law_161 (by rw [c54]; decide) (by decide) rfl (by decide) ?_
          refine V_aload_n hC dL_law_224 rfl 7 rfl ?_
          refine V_iload hC dL_law_225 4 rfl ?_
          refine V_iload hC dL_law_227 3 rfl ?_
          refine V_iconst hC (1 : Int32) dL_law_229 (by decide) ?_
          refine V_iload hC dL_law_230 1 rfl ?_
          refine V_bipush hC (30 : Int32) dL_law_232 (by decide) ?_
          refine V_irem hC dL_law_234 (by decide) ?_
          refine V_iadd hC dL_law_235 ?_
          refine V_iload hC dL_law_236 5 rfl ?_
          refine V_bipush hC (24 : Int32) dL_law_238 (by decide) ?_
          refine V_ishr hC dL_law_240 ?_
          refine V_iconst hC (1 : Int32) dL_law_241 (by decide) ?_
          refine V_iand hC dL_law_242 ?_
          refine V_iconst hC (1 : Int32) dL_law_243 (by decide) ?_
          refine V_icmp_ne hC 251 dL_law_244 (by decide) (fun c55 => ?_) (fun c55 => ?_)
          · have h := ite_f c55 h
            refine V_iconst hC (0 : Int32) dL_law_251 (by decide) ?_
            refine V_sub [6, 7, 9, 5, 4, 3, 2, 1] rfl ?_
            refine V_widen (k := 1000 + (u + 0)) (n := 100000 + 6 * (u + 0)) (by omega) (by omega) ?_
            exact b_L_law_252 hC hr hlk hX hd0 hlt hsc hbl hbA hgA hnS hk86 hv86 (by omega) h
          · have h := ite_t c55 h
            refine V_iconst hC (1 : Int32) dL_law_247 (by decide) ?_
            refine V_goto hC 252 dL_law_248 (by decide) ?_
            refine V_sub [6, 7, 9, 5, 4, 3, 2, 1] rfl ?_
            refine V_widen (k := 1000 + (u + 0)) (n := 100000 + 6 * (u + 0)) (by omega) (by omega) ?_
            exact b_L_law_252 hC hr hlk hX hd0 hlt hsc hbl hbA hgA hnS hk86 hv86 (by omega) h
        have h := ite_f c54 h
        by_cases c56 : q16 = (4 : Int32)
        · have h := ite_t c56 h
          refine V_tableIn hC 4 260 dL_law_161 (by rw [c56]; decide) (by decide) rfl (by decide) ?_
          refine V_aload_n hC dL_law_260 rfl 7 rfl ?_
          refine V_iload hC dL_law_261 2 rfl ?_
          refine V_iload hC dL_law_263 3 rfl ?_
          refine V_iload hC dL_law_265 1 rfl ?_
          refine V_iconst hC (3 : Int32) dL_law_267 (by decide) ?_
          refine V_irem hC dL_law_268 (by decide) ?_
          refine V_iload hC dL_law_269 1 rfl ?_
          refine V_widen (k := 1000 + (u + 0)) (n := 100000 + 6 * (u + 0)) (by omega) (by omega) ?_
          obtain ⟨q57, e57, h⟩ := bind_some h
          refine V_cW hC hX [.ref (adr G 6 0), .int q14, .int q13, .int (ireM q15 (3 : Int32)), .int q15] (c_L_edit (l := l) (rv := q57.1) (Mf := q57.2) hlt hC.2.2.2.2.2.2.2 e57) kx_L_edit gw_784 gw_783 ⟨Nat.le_of_ble_eq_true rfl, Nat.le_of_ble_eq_true rfl⟩ rfl (Nat.le_of_ble_eq_true rfl) dL_law_271 (law_hf (u := u + 0) (k := 1) (by omega)) rfl ?_
          refine V_istore hC ([(9, .int q57.1), (8, .int q15), (7, .int q14), (6, .int q13), (5, .int q12), (4, .int (cellv xs nS x3)), (0, .ref b), (1, .ref (adr G 6 0)), (2, .int x2), (3, .int x3)]) dL_law_274 (by decide) rfl ?_
          refine V_goto hC 463 dL_law_276 (by decide) ?_
          refine V_sub [6, 7, 9, 5, 4, 3, 2, 1, 0] rfl ?_
          refine V_widen (k := 1000 + (u + 1)) (n := 100000 + 6 * (u + 1)) (by omega) (by omega) ?_
          exact b_L_law_463 hC hr hlk hX hd0 hlt hsc hbl hbA hgA hnS hk86 hv86 (by omega) h
        have h := ite_f c56 h
        by_cases c58 : q16 = (5 : Int32)
        · have h := ite_t c58 h
          refine V_tableIn hC 5 260 dL_law_161 (by rw [c58]; decide) (by decide) rfl (by decide) ?_
          refine V_aload_n hC dL_law_260 rfl 7 rfl ?_
          refine V_iload hC dL_law_261 2 rfl ?_
          refine V_iload hC dL_law_263 3 rfl ?_
          refine V_iload hC dL_law_265 1 rfl ?_
          refine V_iconst hC (3 : Int32) dL_law_267 (by decide) ?_
          refine V_irem hC dL_law_268 (by decide) ?_
          refine V_iload hC dL_law_269 1 rfl ?_
          refine V_widen (k := 1000 + (u + 0)) (n := 100000 + 6 * (u + 0)) (by omega) (by omega) ?_
          obtain ⟨q59, e59, h⟩ := bind_some h
          refine V_cW hC hX [.ref (adr G 6 0), .int q14, .int q13, .int (ireM q15 (3 : Int32)), .int q15] (c_L_edit (l := l) (rv := q59.1) (Mf := q59.2) hlt hC.2.2.2.2.2.2.2 e59) kx_L_edit gw_784 gw_783 ⟨Nat.le_of_ble_eq_true rfl, Nat.le_of_ble_eq_true rfl⟩ rfl (Nat.le_of_ble_eq_true rfl) dL_law_271 (law_hf (u := u + 0) (k := 1) (by omega)) rfl ?_
          refine V_istore hC ([(9, .int q59.1), (8, .int q15), (7, .int q14), (6, .int q13), (5, .int q12), (4, .int (cellv xs nS x3)), (0, .ref b), (1, .ref (adr G 6 0)), (2, .int x2), (3, .int x3)]) dL_law_274 (by decide) rfl ?_
          refine V_goto hC 463 dL_law_276 (by decide) ?_
          refine V_sub [6, 7, 9, 5, 4, 3, 2, 1, 0] rfl ?_
          refine V_widen (k := 1000 + (u + 1)) (n := 100000 + 6 * (u + 1)) (by omega) (by omega) ?_
          exact b_L_law_463 hC hr hlk hX hd0 hlt hsc hbl hbA hgA hnS hk86 hv86 (by omega) h
        have h := ite_f c58 h
        by_cases c60 : q16 = (6 : Int32)
        · have h := ite_t c60 h
          refine V_tableIn hC 6 279 dL_law_161 (by rw [c60]; decide) (by decide) rfl (by decide) ?_
          refine V_aload_n hC dL_law_279 rfl 7 rfl ?_
          refine V_iload hC dL_law_280 1 rfl ?_
          refine V_bipush hC (12 : Int32) dL_law_282 (by decide) ?_
          refine V_irem hC dL_law_284 (by decide) ?_
          refine V_widen (k := 1000 + (u + 0)) (n := 100000 + 6 * (u + 0)) (by omega) (by omega) ?_
          obtain ⟨q61, e61, h⟩ := bind_some h
          refine V_cW hC hX [.ref (adr G 6 0), .int (ireM q15 (12 : Int32))] (c_L_pass (l := l) (rv := q61.1) (Mf := q61.2) hlt hC.2.2.2.2.2.2.2 e61) kx_L_pass gw_879 gw_878 ⟨Nat.le_of_ble_eq_true rfl, Nat.le_of_ble_eq_true rfl⟩ rfl (Nat.le_of_ble_eq_true rfl) dL_law_285 (law_hf (u := u + 0) (k := 1) (by omega)) rfl ?_
          refine V_istore hC ([(9, .int q61.1), (8, .int q15), (7, .int q14), (6, .int q13), (5, .int q12), (4, .int (cellv xs nS x3)), (0, .ref b), (1, .ref (adr G 6 0)), (2, .int x2), (3, .int x3)]) dL_law_288 (by decide) rfl ?_
          refine V_goto hC 463 dL_law_290 (by decide) ?_
          refine V_sub [6, 7, 9, 5, 4, 3, 2, 1, 0] rfl ?_
          refine V_widen (k := 1000 + (u + 1)) (n := 100000 + 6 * (u + 1)) (by omega) (by omega) ?_
          exact b_L_law_463 hC hr hlk hX hd0 hlt hsc hbl hbA hgA hnS hk86 hv86 (by omega) h
        have h := ite_f c60 h
        by_cases c62 : q16 = (7 : Int32)
        · have h := ite_t c62 h
          refine V_tableIn hC 7 293 dL_law_161 (by rw [c62]; decide) (by decide) rfl (by decide) ?_
          refine V_aload_n hC dL_law_293 rfl 7 rfl ?_
          refine V_iload hC dL_law_294 3 rfl ?_
          refine V_iload hC dL_law_296 1 rfl ?_
          refine V_iconst hC (3 : Int32) dL_law_298 (by decide) ?_
          refine V_irem hC dL_law_299 (by decide) ?_
          refine V_iload hC dL_law_300 1 rfl ?_
          refine V_widen (k := 1000 + (u + 0)) (n := 100000 + 6 * (u + 0)) (by omega) (by omega) ?_
          obtain ⟨q63, e63, h⟩ := bind_some h
          refine V_cW hC hX [.ref (adr G 6 0), .int q13, .int (ireM q15 (3 : Int32)), .int q15] (c_L_write (l := l) (rv := q63.1) (Mf := q63.2) hlt hC.2.2.2.2.2.2.2 e63) kx_L_write gw_547 gw_546 ⟨Nat.le_of_ble_eq_true rfl, Nat.le_of_ble_eq_true rfl⟩ rfl (Nat.le_of_ble_eq_true rfl) dL_law_302 (law_hf (u := u + 0) (k := 1) (by omega)) rfl ?_
          refine V_istore hC ([(9, .int q63.1), (8, .int q15), (7, .int q14), (6, .int q13), (5, .int q12), (4, .int (cellv xs nS x3)), (0, .ref b), (1, .ref (adr G 6 0)), (2, .int x2), (3, .int x3)]) dL_law_305 (by decide) rfl ?_
          refine V_goto hC 463 dL_law_307 (by decide) ?_
          refine V_sub [6, 7, 9, 5, 4, 3, 2, 1, 0] rfl ?_
          refine V_widen (k := 1000 + (u + 1)) (n := 100000 + 6 * (u + 1)) (by omega) (by omega) ?_
          exact b_L_law_463 hC hr hlk hX hd0 hlt hsc hbl hbA hgA hnS hk86 hv86 (by omega) h
        have h := ite_f c62 h
        by_cases c64 : q16 = (8 : Int32)
        · have h := ite_t c64 h
          refine V_tableIn hC 8 310 dL_law_161 (by rw [c64]; decide) (by decide) rfl (by decide) ?_
          refine V_iload hC dL_law_310 5 rfl ?_
          refine V_bipush hC (24 : Int32) dL_law_312 (by decide) ?_
          refine V_ishr hC dL_law_314 ?_
          refine V_iconst hC (1 : Int32) dL_law_315 (by decide) ?_
          refine V_iand hC dL_law_316 ?_
          refine V_iconst hC (1 : Int32) dL_law_317 (by decide) ?_
          refine V_icmp_ne hC 334 dL_law_318 (by decide) (fun c65 => ?_) (fun c65 => ?_)
          · have h := ite_f c65 h
            refine V_aload_n hC dL_law_334 rfl 7 rfl ?_
            refine V_iload hC dL_law_335 2 rfl ?_
            refine V_widen (k := 1000 + (u + 0)) (n := 100000 + 6 * (u + 0)) (by omega) (by omega) ?_
            obtain ⟨q66, e66, h⟩ := bind_some h
            refine V_cW hC hX [.ref (adr G 6 0), .int q14] (c_L_breakUp (l := l) (rv := q66.1) (Mf := q66.2) hlt hC.2.2.2.2.2.2.2 e66) kx_L_breakUp gw_760 gw_759 ⟨Nat.le_of_ble_eq_true rfl, Nat.le_of_ble_eq_true rfl⟩ rfl (Nat.le_of_ble_eq_true rfl) dL_law_337 (law_hf (u := u + 0) (k := 1) (by omega)) rfl ?_
            refine V_sub [6, 7, 9, 5, 4, 3, 2, 1] rfl ?_
            refine V_widen (k := 1000 + (u + 1)) (n := 100000 + 6 * (u + 1)) (by omega) (by omega) ?_
            exact b_L_law_340 hC hr hlk hX hd0 hlt hsc hbl hbA hgA hnS hk86 hv86 (by omega) h
          · have h := ite_t c65 h
            refine V_aload_n hC dL_law_321 rfl 7 rfl ?_
            refine V_iload hC dL_law_322 2 rfl ?_
            refine V_iload hC dL_law_324 1 rfl ?_
            refine V_iconst hC (3 : Int32) dL_law_326 (by decide) ?_
            refine V_irem hC dL_law_327 (by decide) ?_
            refine V_widen (k := 1000 + (u + 0)) (n := 100000 + 6 * (u + 0)) (by omega) (by omega) ?_
            obtain ⟨q67, e67, h⟩ := bind_some h
            refine V_cW hC hX [.ref (adr G 6 0), .int q14, .int (ireM q15 (3 : Int32))] (c_L_giveBack (l := l) (rv := q67.1) (Mf := q67.2) hlt hC.2.2.2.2.2.2.2 e67) kx_L_giveBack gw_809 gw_808 ⟨Nat.le_of_ble_eq_true rfl, Nat.le_of_ble_eq_true rfl⟩ rfl (Nat.le_of_ble_eq_true rfl) dL_law_328 (law_hf (u := u + 0) (k := 1) (by omega)) rfl ?_
            refine V_goto hC 340 dL_law_331 (by decide) ?_
            refine V_sub [6, 7, 9, 5, 4, 3, 2, 1] rfl ?_
            refine V_widen (k := 1000 + (u + 1)) (n := 100000 + 6 * (u + 1)) (by omega) (by omega) ?_
            exact b_L_law_340 hC hr hlk hX hd0 hlt hsc hbl hbA hgA hnS hk86 hv86 (by omega) h
        have h := ite_f c64 h
        by_cases c68 : q16 = (9 : Int32)
        · have h := ite_t c68 h
          refine V_tableIn hC 9 345 dL_law_161 (by rw [c68]; decide) (by decide) rfl (by decide) ?_
          refine V_iload hC dL_law_345 5 rfl ?_
          refine V_bipush hC (24 : Int32) dL_law_347 (by decide) ?_
          refine V_ishr hC dL_law_349 ?_
          refine V_iconst hC (1 : Int32) dL_law_350 (by decide) ?_
          refine V_iand hC dL_law_351 ?_
          refine V_iconst hC (1 : Int32) dL_law_352 (by decide) ?_
          refine V_icmp_ne hC 365 dL_law_353 (by decide) (fun c69 => ?_) (fun c69 => ?_)
          · have h := ite_f c69 h
            refine V_aload_n hC dL_law_365 rfl 7 rfl ?_
            refine V_iload hC dL_law_366 2 rfl ?_
            refine V_iconst hC (1 : Int32) dL_law_368 (by decide) ?_
            refine V_iload hC dL_law_369 1 rfl ?_
            refine V_bipush hC (20 : Int32) dL_law_371 (by decide) ?_
            refine V_irem hC dL_law_373 (by decide) ?_
            refine V_iadd hC dL_law_374 ?_
            refine V_widen (k := 1000 + (u + 0)) (n := 100000 + 6 * (u + 0)) (by omega) (by omega) ?_
            obtain ⟨q70, e70, h⟩ := bind_some h
            refine V_cW hC hX [.ref (adr G 6 0), .int q14, .int ((1 : Int32) + (ireM q15 (20 : Int32)))] (c_L_renew (l := l) (rv := q70.1) (Mf := q70.2) hlt hC.2.2.2.2.2.2.2 e70) kx_L_renew gw_740 gw_739 ⟨Nat.le_of_ble_eq_true rfl, Nat.le_of_ble_eq_true rfl⟩ rfl (Nat.le_of_ble_eq_true rfl) dL_law_375 (law_hf (u := u + 0) (k := 1) (by omega)) rfl ?_
            refine V_sub [6, 7, 9, 5, 4, 3, 2, 1] rfl ?_
            refine V_widen (k := 1000 + (u + 1)) (n := 100000 + 6 * (u + 1)) (by omega) (by omega) ?_
            exact b_L_law_378 hC hr hlk hX hd0 hlt hsc hbl hbA hgA hnS hk86 hv86 (by omega) h
          · have h := ite_t c69 h
            refine V_aload_n hC dL_law_356 rfl 7 rfl ?_
            refine V_iload hC dL_law_357 4 rfl ?_
            refine V_widen (k := 1000 + (u + 0)) (n := 100000 + 6 * (u + 0)) (by omega) (by omega) ?_
            obtain ⟨q71, e71, h⟩ := bind_some h
            refine V_cW hC hX [.ref (adr G 6 0), .int q12] (c_L_cancel (l := l) (rv := q71.1) (Mf := q71.2) hlt hC.2.2.2.2.2.2.2 e71) kx_L_cancel gw_721 gw_720 ⟨Nat.le_of_ble_eq_true rfl, Nat.le_of_ble_eq_true rfl⟩ rfl (Nat.le_of_ble_eq_true rfl) dL_law_359 (law_hf (u := u + 0) (k := 1) (by omega)) rfl ?_
            refine V_goto hC 378 dL_law_362 (by decide) ?_
            refine V_sub [6, 7, 9, 5, 4, 3, 2, 1] rfl ?_
            refine V_widen (k := 1000 + (u + 1)) (n := 100000 + 6 * (u + 1)) (by omega) (by omega) ?_
            exact b_L_law_378 hC hr hlk hX hd0 hlt hsc hbl hbA hgA hnS hk86 hv86 (by omega) h
        have h := ite_f c68 h
        by_cases c72 : q16 = (10 : Int32)
        · have h := ite_t c72 h
          refine V_tableIn hC 10 383 dL_law_161 (by rw [c72]; decide) (by decide) rfl (by decide) ?_
          refine V_iload hC dL_law_383 5 rfl ?_
          refine V_bipush hC (24 : Int32) dL_law_385 (by decide) ?_
          refine V_ishr hC dL_law_387 ?_
          refine V_iconst hC (1 : Int32) dL_law_388 (by decide) ?_
          refine V_iand hC dL_law_389 ?_
          refine V_iconst hC (1 : Int32) dL_law_390 (by decide) ?_
          refine V_icmp_ne hC 403 dL_law_391 (by decide) (fun c73 => ?_) (fun c73 => ?_)
          · have h := ite_f c73 h
            refine V_aload_n hC dL_law_403 rfl 7 rfl ?_
            refine V_iload hC dL_law_404 3 rfl ?_
            refine V_iload hC dL_law_406 4 rfl ?_
            refine V_widen (k := 1000 + (u + 0)) (n := 100000 + 6 * (u + 0)) (by omega) (by omega) ?_
            obtain ⟨q74, e74, h⟩ := bind_some h
            refine V_cW hC hX [.ref (adr G 6 0), .int q13, .int q12] (c_L_moveSection (l := l) (rv := q74.1) (Mf := q74.2) hlt hC.2.2.2.2.2.2.2 e74) kx_L_moveSection gw_523 gw_522 ⟨Nat.le_of_ble_eq_true rfl, Nat.le_of_ble_eq_true rfl⟩ rfl (Nat.le_of_ble_eq_true rfl) dL_law_408 (law_hf (u := u + 0) (k := 1) (by omega)) rfl ?_
            refine V_sub [6, 7, 9, 5, 4, 3, 2, 1] rfl ?_
            refine V_widen (k := 1000 + (u + 1)) (n := 100000 + 6 * (u + 1)) (by omega) (by omega) ?_
            exact b_L_law_411 hC hr hlk hX hd0 hlt hsc hbl hbA hgA hnS hk86 hv86 (by omega) h
          · have h := ite_t c73 h
            refine V_aload_n hC dL_law_394 rfl 7 rfl ?_
            refine V_iload hC dL_law_395 3 rfl ?_
            refine V_widen (k := 1000 + (u + 0)) (n := 100000 + 6 * (u + 0)) (by omega) (by omega) ?_
            obtain ⟨q75, e75, h⟩ := bind_some h
            refine V_cW hC hX [.ref (adr G 6 0), .int q13] (c_L_removeSection (l := l) (rv := q75.1) (Mf := q75.2) hlt hC.2.2.2.2.2.2.2 e75) kx_L_removeSection gw_463 gw_462 ⟨Nat.le_of_ble_eq_true rfl, Nat.le_of_ble_eq_true rfl⟩ rfl (Nat.le_of_ble_eq_true rfl) dL_law_397 (law_hf (u := u + 0) (k := 1) (by omega)) rfl ?_
            refine V_goto hC 411 dL_law_400 (by decide) ?_
            refine V_sub [6, 7, 9, 5, 4, 3, 2, 1] rfl ?_
            refine V_widen (k := 1000 + (u + 1)) (n := 100000 + 6 * (u + 1)) (by omega) (by omega) ?_
            exact b_L_law_411 hC hr hlk hX hd0 hlt hsc hbl hbA hgA hnS hk86 hv86 (by omega) h
        have h := ite_f c72 h
        by_cases c76 : q16 = (11 : Int32)
        · have h := ite_t c76 h
          refine V_tableIn hC 11 416 dL_law_161 (by rw [c76]; decide) (by decide) rfl (by decide) ?_
          refine V_iload hC dL_law_416 5 rfl ?_
          refine V_bipush hC (24 : Int32) dL_law_418 (by decide) ?_
          refine V_ishr hC dL_law_420 ?_
          refine V_iconst hC (1 : Int32) dL_law_421 (by decide) ?_
          refine V_iand hC dL_law_422 ?_
          refine V_iconst hC (1 : Int32) dL_law_423 (by decide) ?_
          refine V_icmp_ne hC 436 dL_law_424 (by decide) (fun c77 => ?_) (fun c77 => ?_)
          · have h := ite_f c77 h
            refine V_aload_n hC dL_law_436 rfl 7 rfl ?_
            refine V_iload hC dL_law_437 2 rfl ?_
            refine V_iconst hC (0 : Int32) dL_law_439 (by decide) ?_
            refine V_iload hC dL_law_440 1 rfl ?_
            refine V_iconst hC (3 : Int32) dL_law_442 (by decide) ?_
            refine V_irem hC dL_law_443 (by decide) ?_
            refine V_iload hC dL_law_444 1 rfl ?_
            refine V_widen (k := 1000 + (u + 0)) (n := 100000 + 6 * (u + 0)) (by omega) (by omega) ?_
            obtain ⟨q78, e78, h⟩ := bind_some h
            refine V_cW hC hX [.ref (adr G 6 0), .int q14, .int (0 : Int32), .int (ireM q15 (3 : Int32)), .int q15] (c_L_edit (l := l) (rv := q78.1) (Mf := q78.2) hlt hC.2.2.2.2.2.2.2 e78) kx_L_edit gw_784 gw_783 ⟨Nat.le_of_ble_eq_true rfl, Nat.le_of_ble_eq_true rfl⟩ rfl (Nat.le_of_ble_eq_true rfl) dL_law_446 (law_hf (u := u + 0) (k := 1) (by omega)) rfl ?_
            refine V_sub [6, 7, 9, 5, 4, 3, 2, 1] rfl ?_
            refine V_widen (k := 1000 + (u + 1)) (n := 100000 + 6 * (u + 1)) (by omega) (by omega) ?_
            exact b_L_law_449 hC hr hlk hX hd0 hlt hsc hbl hbA hgA hnS hk86 hv86 (by omega) h
          · have h := ite_t c77 h
            refine V_aload_n hC dL_law_427 rfl 7 rfl ?_
            refine V_iload hC dL_law_428 3 rfl ?_
            refine V_widen (k := 1000 + (u + 0)) (n := 100000 + 6 * (u + 0)) (by omega) (by omega) ?_
            obtain ⟨q79, e79, h⟩ := bind_some h
            refine V_cW hC hX [.ref (adr G 6 0), .int q13] (c_L_addSection (l := l) (rv := q79.1) (Mf := q79.2) hlt hC.2.2.2.2.2.2.2 e79) kx_L_addSection gw_236 gw_235 ⟨Nat.le_of_ble_eq_true rfl, Nat.le_of_ble_eq_true rfl⟩ rfl (Nat.le_of_ble_eq_true rfl) dL_law_430 (law_hf (u := u + 0) (k := 1) (by omega)) rfl ?_
            refine V_goto hC 449 dL_law_433 (by decide) ?_
            refine V_sub [6, 7, 9, 5, 4, 3, 2, 1] rfl ?_
            refine V_widen (k := 1000 + (u + 1)) (n := 100000 + 6 * (u + 1)) (by omega) (by omega) ?_
            exact b_L_law_449 hC hr hlk hX hd0 hlt hsc hbl hbA hgA hnS hk86 hv86 (by omega) h
        have h := ite_f c76 h
        refine V_tableOut hC 454 dL_law_161 (tsw_out (0) 12 q16 (tsw_cons c17 (by decide) (tsw_cons c50 (by decide) (tsw_cons c52 (by decide) (tsw_cons c54 (by decide) (tsw_cons c56 (by decide) (tsw_cons c58 (by decide) (tsw_cons c60 (by decide) (tsw_cons c62 (by decide) (tsw_cons c64 (by decide) (tsw_cons c68 (by decide) (tsw_cons c72 (by decide) (tsw_cons c76 (by decide) (tsw_nil))))))))))))) rfl) (by decide) ?_
        refine V_aload_n hC dL_law_454 rfl 7 rfl ?_
        refine V_iload hC dL_law_455 3 rfl ?_
        refine V_iconst hC (0 : Int32) dL_law_457 (by decide) ?_
        refine V_widen (k := 1000 + (u + 0)) (n := 100000 + 6 * (u + 0)) (by omega) (by omega) ?_
        obtain ⟨q80, e80, h⟩ := bind_some h
        refine V_cW hC hX [.ref (adr G 6 0), .int q13, .int (0 : Int32)] (c_L_revert (l := l) (rv := q80.1) (Mf := q80.2) hlt hC.2.2.2.2.2.2.2 e80) kx_L_revert gw_858 gw_857 ⟨Nat.le_of_ble_eq_true rfl, Nat.le_of_ble_eq_true rfl⟩ rfl (Nat.le_of_ble_eq_true rfl) dL_law_458 (law_hf (u := u + 0) (k := 1) (by omega)) rfl ?_
        refine V_istore hC ([(9, .int q80.1), (8, .int q15), (7, .int q14), (6, .int q13), (5, .int q12), (4, .int (cellv xs nS x3)), (0, .ref b), (1, .ref (adr G 6 0)), (2, .int x2), (3, .int x3)]) dL_law_461 (by decide) rfl ?_
        refine V_sub [6, 7, 9, 5, 4, 3, 2, 1, 0] rfl ?_
        refine V_widen (k := 1000 + (u + 1)) (n := 100000 + 6 * (u + 1)) (by omega) (by omega) ?_
        exact b_L_law_463 hC hr hlk hX hd0 hlt hsc hbl hbA hgA hnS hk86 hv86 (by omega) h
set_option maxRecDepth 100000 in
set_option maxHeartbeats 8000000 in
theorem b_L_law_84 {xs : Nat → Int32} {nS : Nat} {u : Nat} {b : Nat} {d0 : Drawn} {x2 : Int32} {M : Mem} (hC : Cx p (s.setDrawn d0) m #[Value.ref b] c code RL 11 G) (hr : meth.sig.returnType = ret) (hlk : meth.locks = false) (hX : XF G (s.setDrawn d0)) (hd0 : s.drawn.sameBut d0 lw_cs) (hlt : l.stackTraces = false) (hsc : va_X b nS xs (s.setDrawn d0) (s.setDrawn d0).heap) (hbl : b < (s.setDrawn d0).heap.size) (hbA : ¬ gA G b) (hgA : ∀ q, gA G q → s.heap.size ≤ q) (hnS : nS < 2147483648) (hu : u + ((KL + 0)) ≤ (KL + 939)) (h : B_L_law_84 xs nS x2 M = some 1) : V p l e room_1 (s.setDrawn d0) m #[Value.ref b] below meth c 11 G (1000 + (u)) (100000 + 6 * (u)) (lw_Z below #[Value.ref b] s) 84 [(0, .ref b), (1, .ref (adr G 6 0)), (2, .int x2)] [] M := by
  refine V_iconst hC (0 : Int32) dL_law_84 (by decide) ?_
  refine V_istore_n hC ([(3, .int (0 : Int32)), (0, .ref b), (1, .ref (adr G 6 0)), (2, .int x2)]) dL_law_85 rfl (by decide) rfl ?_
  refine V_sub [1, 2, 3, 0] rfl ?_
  refine V_widen (k := 1000 + (u + 0)) (n := 100000 + 6 * (u + 0)) (by omega) (by omega) ?_
  exact l_L_law_86 hC hr hlk hX hd0 hlt hsc hbl hbA hgA hnS 23 (by rw [show 14358 * 23 + (930) = KL from rfl]; omega) h
set_option maxRecDepth 100000 in
set_option maxHeartbeats 8000000 in
theorem b_L_law_77 {xs : Nat → Int32} {nS : Nat} {u : Nat} {v40 : Nat} {b : Nat} {d0 : Drawn} {k40 : Int32 → Int32 → Mem → Option Int32} {x3 : Int32} {z0 : Int32} {M : Mem} (hC : Cx p (s.setDrawn d0) m #[Value.ref b] c code RL 11 G) (hr : meth.sig.returnType = ret) (hlk : meth.locks = false) (hX : XF G (s.setDrawn d0)) (hd0 : s.drawn.sameBut d0 lw_cs) (hlt : l.stackTraces = false) (hsc : va_X b nS xs (s.setDrawn d0) (s.setDrawn d0).heap) (hbl : b < (s.setDrawn d0).heap.size) (hbA : ¬ gA G b) (hgA : ∀ q, gA G q → s.heap.size ≤ q) (hnS : nS < 2147483648) (hk40 : ∀ (u : Nat) (x2 : Int32) (x3 : Int32) (M : Mem), u + v40 ≤ (KL + 939) → k40 x2 x3 M = some 1 → V p l e room_1 (s.setDrawn d0) m #[Value.ref b] below meth c 11 G (1000 + (u)) (100000 + 6 * (u)) (lw_Z below #[Value.ref b] s) 40 [(0, .ref b), (1, .ref (adr G 6 0)), (2, .int x2), (3, .int x3)] [] M) (hv40 : (KL + 0) ≤ v40) (hu : u + (0 + v40) ≤ (KL + 939)) (h : B_L_law_77 xs nS k40 x3 z0 M = some 1) : V p l e room_1 (s.setDrawn d0) m #[Value.ref b] below meth c 11 G (1000 + (u)) (100000 + 6 * (u)) (lw_Z below #[Value.ref b] s) 77 [(0, .ref b), (1, .ref (adr G 6 0)), (3, .int x3)] [.int z0] M := by
  refine V_istore_n hC ([(2, .int z0), (0, .ref b), (1, .ref (adr G 6 0)), (3, .int x3)]) dL_law_77 rfl (by decide) rfl ?_
  refine V_iinc hC (x3 + 1) ([(3, .int (x3 + 1)), (2, .int z0), (0, .ref b), (1, .ref (adr G 6 0))]) dL_law_78 3 rfl rfl (by decide) rfl ?_
  refine V_goto hC 40 dL_law_81 (by decide) ?_
  refine V_sub [2, 3, 1, 0] rfl ?_
  refine V_widen (k := 1000 + (u + 0)) (n := 100000 + 6 * (u + 0)) (by omega) (by omega) ?_
  exact hk40 _ _ _ _ (by omega) h
set_option maxRecDepth 100000 in
set_option maxHeartbeats 8000000 in
theorem l_L_law_40 {xs : Nat → Int32} {nS : Nat} {b : Nat} {d0 : Drawn} (hC : Cx p (s.setDrawn d0) m #[Value.ref b] c code RL 11 G) (hr : meth.sig.returnType = ret) (hlk : meth.locks = false) (hX : XF G (s.setDrawn d0)) (hd0 : s.drawn.sameBut d0 lw_cs) (hlt : l.stackTraces = false) (hsc : va_X b nS xs (s.setDrawn d0) (s.setDrawn d0).heap) (hbl : b < (s.setDrawn d0).heap.size) (hbA : ¬ gA G b) (hgA : ∀ q, gA G q → s.heap.size ≤ q) (hnS : nS < 2147483648) : ∀ (n : Nat) {u : Nat} {x2 : Int32} {x3 : Int32} {M : Mem} (hu : u + (1 * n + ((KL + 0))) ≤ (KL + 939)) (h : L_L_law_40 xs nS n x2 x3 M = some 1), V p l e room_1 (s.setDrawn d0) m #[Value.ref b] below meth c 11 G (1000 + (u)) (100000 + 6 * (u)) (lw_Z below #[Value.ref b] s) 40 [(0, .ref b), (1, .ref (adr G 6 0)), (2, .int x2), (3, .int x3)] [] M := by
  intro n
  induction n with
  | zero => intro u x2 x3 M hu h; cases h
  | succ n ih =>
    intro u x2 x3 M hu h
    rw [Nat.mul_succ] at hu
    obtain ⟨v40, ev40⟩ : ∃ v, v = 1 * n + ((KL + 0)) := ⟨_, rfl⟩
    have hv40 : (KL + 0) ≤ v40 := by rw [ev40]; exact Nat.le_add_left _ _
    have hk40 : ∀ (u : Nat) (x2 : Int32) (x3 : Int32) (M : Mem), u + v40 ≤ (KL + 939) → L_L_law_40 xs nS n x2 x3 M = some 1 → V p l e room_1 (s.setDrawn d0) m #[Value.ref b] below meth c 11 G (1000 + (u)) (100000 + 6 * (u)) (lw_Z below #[Value.ref b] s) 40 [(0, .ref b), (1, .ref (adr G 6 0)), (2, .int x2), (3, .int x3)] [] M := fun _ _ _ _ hw z => ih (by rw [← ev40]; exact hw) z
    have hu : u + 1 + v40 ≤ (KL + 939) := bud hu ev40
    clear ih ev40
    refine V_iload_n hC dL_law_40 rfl 3 rfl ?_
    refine V_bipush hC (8 : Int32) dL_law_41 (by decide) ?_
    refine V_icmp_ge hC 84 dL_law_43 (by decide) (fun c3 => ?_) (fun c3 => ?_)
    · have h := ite_t c3 h
      refine V_sub [0, 1, 2] rfl ?_
      refine V_widen (k := 1000 + (u + 0)) (n := 100000 + 6 * (u + 0)) (by omega) (by omega) ?_
      exact b_L_law_84 hC hr hlk hX hd0 hlt hsc hbl hbA hgA hnS (by omega) h
    · have h := ite_f c3 h
      refine V_iload_n hC dL_law_46 rfl 2 rfl ?_
      refine V_if_eq hC 84 dL_law_47 (by decide) (fun c81 => ?_) (fun c81 => ?_)
      · have h := ite_t c81 h
        refine V_sub [0, 1, 2] rfl ?_
        refine V_widen (k := 1000 + (u + 0)) (n := 100000 + 6 * (u + 0)) (by omega) (by omega) ?_
        exact b_L_law_84 hC hr hlk hX hd0 hlt hsc hbl hbA hgA hnS (by omega) h
      · have h := ite_f c81 h
        refine V_aload_n hC dL_law_50 rfl 1 rfl ?_
        refine V_aload_n hC dL_law_51 rfl 0 rfl ?_
        refine V_bipush hC (40 : Int32) dL_law_52 (by decide) ?_
        refine V_widen (k := 1000 + (u + 0)) (n := 100000 + 6 * (u + 0)) (by omega) (by omega) ?_
        obtain ⟨c85, h⟩ := ite_some h
        refine V_cell hC hnS c85 hsc hbl hbA kd_L_cell gw_228 gw_227 dL_law_54 ⟨Nat.le_of_ble_eq_true rfl, Nat.le_of_ble_eq_true rfl⟩ (Nat.le_of_ble_eq_true rfl) (law_hf (u := u + 0) (k := 0) (by omega)) ?_
        refine V_iconst hC (3 : Int32) dL_law_57 (by decide) ?_
        refine V_iload_n hC dL_law_58 rfl 3 rfl ?_
        refine V_imul hC dL_law_59 ?_
        refine V_ishr hC dL_law_60 ?_
        refine V_iload_n hC dL_law_61 rfl 3 rfl ?_
        refine V_widen (k := 1000 + (u + 0)) (n := 100000 + 6 * (u + 0)) (by omega) (by omega) ?_
        obtain ⟨q83, e83, h⟩ := bind_some h
        refine V_cSr hC [.int ((cellv xs nS (40 : Int32)) >>> (((3 : Int32) * x3) &&& 31)), .int x3] (c_L_low (l := l) hC.2.2.2.2.2.2.2 e83) kd_L_low gw_232 gw_231 ⟨Nat.le_of_ble_eq_true rfl, Nat.le_of_ble_eq_true rfl⟩ rfl (Nat.le_of_ble_eq_true rfl) dL_law_62 (law_hf (u := u + 0) (k := 0) (by omega)) rfl ?_
        refine V_widen (k := 1000 + (u + 0)) (n := 100000 + 6 * (u + 0)) (by omega) (by omega) ?_
        obtain ⟨q84, e84, h⟩ := bind_some h
        refine V_cW hC hX [.ref (adr G 6 0), .int q83] (c_L_addSection (l := l) (rv := q84.1) (Mf := q84.2) hlt hC.2.2.2.2.2.2.2 e84) kx_L_addSection gw_236 gw_235 ⟨Nat.le_of_ble_eq_true rfl, Nat.le_of_ble_eq_true rfl⟩ rfl (Nat.le_of_ble_eq_true rfl) dL_law_65 (law_hf (u := u + 0) (k := 1) (by omega)) rfl ?_
        refine V_iload_n hC dL_law_68 rfl 3 rfl ?_
        refine V_icmp_ne hC 76 dL_law_69 (by decide) (fun c85 => ?_) (fun c85 => ?_)
        · have h := ite_f c85 h
          refine V_iconst hC (0 : Int32) dL_law_76 (by decide) ?_
          refine V_sub [0, 1, 3] rfl ?_
          refine V_widen (k := 1000 + (u + 1)) (n := 100000 + 6 * (u + 1)) (by omega) (by omega) ?_
          exact b_L_law_77 hC hr hlk hX hd0 hlt hsc hbl hbA hgA hnS hk40 hv40 (by omega) h
        · have h := ite_t c85 h
          refine V_iconst hC (1 : Int32) dL_law_72 (by decide) ?_
          refine V_goto hC 77 dL_law_73 (by decide) ?_
          refine V_sub [0, 1, 3] rfl ?_
          refine V_widen (k := 1000 + (u + 1)) (n := 100000 + 6 * (u + 1)) (by omega) (by omega) ?_
          exact b_L_law_77 hC hr hlk hX hd0 hlt hsc hbl hbA hgA hnS hk40 hv40 (by omega) h
set_option maxRecDepth 100000 in
set_option maxHeartbeats 8000000 in
theorem b_L_law_37 {xs : Nat → Int32} {nS : Nat} {u : Nat} {b : Nat} {d0 : Drawn} {z0 : Int32} {M : Mem} (hC : Cx p (s.setDrawn d0) m #[Value.ref b] c code RL 11 G) (hr : meth.sig.returnType = ret) (hlk : meth.locks = false) (hX : XF G (s.setDrawn d0)) (hd0 : s.drawn.sameBut d0 lw_cs) (hlt : l.stackTraces = false) (hsc : va_X b nS xs (s.setDrawn d0) (s.setDrawn d0).heap) (hbl : b < (s.setDrawn d0).heap.size) (hbA : ¬ gA G b) (hgA : ∀ q, gA G q → s.heap.size ≤ q) (hnS : nS < 2147483648) (hu : u + ((KL + 8)) ≤ (KL + 939)) (h : B_L_law_37 xs nS z0 M = some 1) : V p l e room_1 (s.setDrawn d0) m #[Value.ref b] below meth c 11 G (1000 + (u)) (100000 + 6 * (u)) (lw_Z below #[Value.ref b] s) 37 [(0, .ref b), (1, .ref (adr G 6 0))] [.int z0] M := by
  refine V_istore_n hC ([(2, .int z0), (0, .ref b), (1, .ref (adr G 6 0))]) dL_law_37 rfl (by decide) rfl ?_
  refine V_iconst hC (1 : Int32) dL_law_38 (by decide) ?_
  refine V_istore_n hC ([(3, .int (1 : Int32)), (2, .int z0), (0, .ref b), (1, .ref (adr G 6 0))]) dL_law_39 rfl (by decide) rfl ?_
  refine V_sub [2, 3, 1, 0] rfl ?_
  refine V_widen (k := 1000 + (u + 0)) (n := 100000 + 6 * (u + 0)) (by omega) (by omega) ?_
  exact l_L_law_40 hC hr hlk hX hd0 hlt hsc hbl hbA hgA hnS 8 (by omega) h
set_option maxRecDepth 100000 in
set_option maxHeartbeats 8000000 in
theorem b_L_law_36 {xs : Nat → Int32} {nS : Nat} {u : Nat} {b : Nat} {d0 : Drawn} {M : Mem} (hC : Cx p (s.setDrawn d0) m #[Value.ref b] c code RL 11 G) (hr : meth.sig.returnType = ret) (hlk : meth.locks = false) (hX : XF G (s.setDrawn d0)) (hd0 : s.drawn.sameBut d0 lw_cs) (hlt : l.stackTraces = false) (hsc : va_X b nS xs (s.setDrawn d0) (s.setDrawn d0).heap) (hbl : b < (s.setDrawn d0).heap.size) (hbA : ¬ gA G b) (hgA : ∀ q, gA G q → s.heap.size ≤ q) (hnS : nS < 2147483648) (hu : u + ((KL + 8)) ≤ (KL + 939)) (h : B_L_law_36 xs nS M = some 1) : V p l e room_1 (s.setDrawn d0) m #[Value.ref b] below meth c 11 G (1000 + (u)) (100000 + 6 * (u)) (lw_Z below #[Value.ref b] s) 36 [(0, .ref b), (1, .ref (adr G 6 0))] [] M := by
  refine V_iconst hC (0 : Int32) dL_law_36 (by decide) ?_
  refine V_widen (k := 1000 + (u + 0)) (n := 100000 + 6 * (u + 0)) (by omega) (by omega) ?_
  exact b_L_law_37 hC hr hlk hX hd0 hlt hsc hbl hbA hgA hnS (by omega) h
set_option maxRecDepth 100000 in
set_option maxHeartbeats 8000000 in
theorem e_L_law {xs : Nat → Int32} {nS : Nat} {b : Nat} {d0 : Drawn} {M : Mem} (hC : Cx p (s.setDrawn d0) m #[Value.ref b] c code RL 11 G) (hr : meth.sig.returnType = ret) (hlk : meth.locks = false) (hX : XF G (s.setDrawn d0)) (hd0 : s.drawn.sameBut d0 lw_cs) (hlt : l.stackTraces = false) (hsc : va_X b nS xs (s.setDrawn d0) (s.setDrawn d0).heap) (hbl : b < (s.setDrawn d0).heap.size) (hbA : ¬ gA G b) (hgA : ∀ q, gA G q → s.heap.size ≤ q) (hnS : nS < 2147483648) (h : f_L_law xs nS M = some 1) : V p l e room_1 (s.setDrawn d0) m #[Value.ref b] below meth c 11 G (1000) (100000) (lw_Z below #[Value.ref b] s) 8 [(1, .ref (adr G 6 0)), (0, .ref b)] [] M := by
  obtain ⟨u, eu⟩ : ∃ u : Nat, u = 0 := ⟨0, rfl⟩
  have hu : u + (KL + 939) ≤ (KL + 939) := by omega
  refine V_u1 (u := u) eu ?_
  refine V_aload_n hC dL_law_8 rfl 0 rfl ?_
  refine V_widen (k := 1000 + (u + 0)) (n := 100000 + 6 * (u + 0)) (by omega) (by omega) ?_
  obtain ⟨q1, e1, h⟩ := bind_some h
  refine V_cW hC hX [.ref (adr G 6 0)] (c_L_undo (l := l) (rv := q1.1) (Mf := q1.2) hlt hC.2.2.2.2.2.2.2 e1) kx_L_undo gw_947 gw_946 ⟨Nat.le_of_ble_eq_true rfl, Nat.le_of_ble_eq_true rfl⟩ rfl (Nat.le_of_ble_eq_true rfl) dL_law_9 (law_hf (u := u + 0) (k := 1) (by omega)) rfl ?_
  refine V_bipush hC ((-52) : Int32) dL_law_12 (by decide) ?_
  refine V_icmp_ne hC 36 dL_law_14 (by decide) (fun c2 => ?_) (fun c2 => ?_)
  · have h := ite_f c2 h
    refine V_sub [1, 0] rfl ?_
    refine V_widen (k := 1000 + (u + 1)) (n := 100000 + 6 * (u + 1)) (by omega) (by omega) ?_
    exact b_L_law_36 hC hr hlk hX hd0 hlt hsc hbl hbA hgA hnS (by omega) h
  · have h := ite_t c2 h
    refine V_aload_n hC dL_law_17 rfl 0 rfl ?_
    refine V_iconst hC (0 : Int32) dL_law_18 (by decide) ?_
    refine V_widen (k := 1000 + (u + 1)) (n := 100000 + 6 * (u + 1)) (by omega) (by omega) ?_
    obtain ⟨q86, e86, h⟩ := bind_some h
    refine V_cW hC hX [.ref (adr G 6 0), .int (0 : Int32)] (c_L_pass (l := l) (rv := q86.1) (Mf := q86.2) hlt hC.2.2.2.2.2.2.2 e86) kx_L_pass gw_879 gw_878 ⟨Nat.le_of_ble_eq_true rfl, Nat.le_of_ble_eq_true rfl⟩ rfl (Nat.le_of_ble_eq_true rfl) dL_law_19 (law_hf (u := u + 1) (k := 1) (by omega)) rfl ?_
    refine V_if_ne hC 36 dL_law_22 (by decide) (fun c87 => ?_) (fun c87 => ?_)
    · have h := ite_f c87 h
      refine V_sub [1, 0] rfl ?_
      refine V_widen (k := 1000 + (u + 2)) (n := 100000 + 6 * (u + 2)) (by omega) (by omega) ?_
      exact b_L_law_36 hC hr hlk hX hd0 hlt hsc hbl hbA hgA hnS (by omega) h
    · have h := ite_t c87 h
      refine V_aload_n hC dL_law_25 rfl 0 rfl ?_
      refine V_widen (k := 1000 + (u + 2)) (n := 100000 + 6 * (u + 2)) (by omega) (by omega) ?_
      obtain ⟨q88, e88, h⟩ := bind_some h
      refine V_cL (K := 929) hC hX [.ref (adr G 6 0)] (c_L_refused (l := l) (rv := q88.1) (Mf := q88.2) hlt hC.2.2.2.2.2.2.2 e88) kd_L_refused gw_958 gw_957 ⟨Nat.le_of_ble_eq_true rfl, Nat.le_of_ble_eq_true rfl⟩ rfl (Nat.le_of_ble_eq_true rfl) dL_law_26 (law_hf (u := u + 2) (k := 929) (by omega)) rfl ?_
      refine V_if_eq hC 36 dL_law_29 (by decide) (fun c89 => ?_) (fun c89 => ?_)
      · have h := ite_t c89 h
        refine V_sub [1, 0] rfl ?_
        refine V_widen (k := 1000 + (u + 931)) (n := 100000 + 6 * (u + 931)) (by omega) (by omega) ?_
        exact b_L_law_36 hC hr hlk hX hd0 hlt hsc hbl hbA hgA hnS (by omega) h
      · have h := ite_f c89 h
        refine V_iconst hC (1 : Int32) dL_law_32 (by decide) ?_
        refine V_goto hC 37 dL_law_33 (by decide) ?_
        refine V_sub [1, 0] rfl ?_
        refine V_widen (k := 1000 + (u + 931)) (n := 100000 + 6 * (u + 931)) (by omega) (by omega) ?_
        exact b_L_law_37 hC hr hlk hX hd0 hlt hsc hbl hbA hgA hnS (by omega) h
end
