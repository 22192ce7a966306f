/-! ===== the state of both sides; calls that are refused, calls that can be undone ===== -/
theorem flt_1 (b c : Bool) : flt false b c = 1 := rfl
theorem flt_2 (c : Bool) : flt true false c = 2 := rfl
theorem flt_3 : flt true true false = 3 := rfl
theorem flt_0 : flt true true true = 0 := rfl
theorem fkl_0 : fk (nI 0) = 0 := fk_nI 0 (by decide)
theorem fkl_1 : fk (nI 1) = 1 := fk_nI 1 (by decide)
theorem fkl_2 : fk (nI 2) = 2 := fk_nI 2 (by decide)
theorem fkl_3 : fk (nI 3) = 3 := fk_nI 3 (by decide)
theorem n10 : ((1 : Nat) = 0) = False := by simp
theorem n20 : ((2 : Nat) = 0) = False := by simp
theorem n30 : ((3 : Nat) = 0) = False := by simp
theorem n12 : ((1 : Nat) = 2) = False := by simp
theorem n13 : ((1 : Nat) = 3) = False := by simp
theorem n21 : ((2 : Nat) = 1) = False := by simp
theorem n23 : ((2 : Nat) = 3) = False := by simp
theorem n31 : ((3 : Nat) = 1) = False := by simp
theorem n32 : ((3 : Nat) = 2) = False := by simp
theorem refu_0 (M : Mem) : f_X9_refused (nI 0) M = some (nI 0, wr M 7 0 4 (nI 0)) := by
  unfold f_X9_refused
  simp (disch := omega) only [↓ite_b2r, ↓ite_nb2r, ↓lit_m1, ↓lit_m2, lit_0, lit_1, lit_2, lit_3, lit_4, lit_5, lit_6, lit_7, lit_8, lit_9, lit_10, lit_11, lit_12, lit_13, lit_14, lit_15, lit_16, lit_17, lit_18, lit_19, lit_20, lit_21, lit_22, lit_23, lit_24, lit_25, lit_26, lit_27, lit_28, lit_29, lit_30, lit_31, lit_32, lit_33, lit_34, lit_35, lit_36, lit_40, lit_41, lit_42, lit_44, lit_48, lit_57, lit_59, lit_62, lit_63, lit_64, lit_82, lit_98, lit_99, lit_100, lit_101, lit_102, lit_103, lit_104, lit_105, lit_106, lit_107, lit_108, lit_109, lit_110, lit_111, lit_112, lit_113, lit_119, lit_120, lit_127, lit_128, lit_149, lit_150, lit_202, lit_240, lit_262, lit_894, lit_900, lit_999, lit_1000, lit_2000, lit_2662, lit_2663, lit_2695, lit_2701, lit_2702, lit_3602, lit_10806, nI_add, pk_mul, cl_nI, inb_nI, nI_leI, nI_ltI, nI_eq, nI_eq_m1, m1_eq_nI, nI_eq_m2, div_nI, rem_nI, Option.bind_some, b2_0, b2_1, isb_b2, if_true_, if_false_, ↓reduceIte, reduceCtorEq, not_true_eq_false, not_false_eq_true, bt_hasBit, ult, Nat.add_zero, false_and, true_and, and_true, and_false, Nat.reduceLeDiff, Nat.reduceEqDiff, Nat.reduceLT, Bool.toNat_true, Bool.toNat_false, decide_true, decide_false, Bool.not_true, Bool.not_false, Bool.false_and, Bool.true_and, Bool.and_true, Bool.and_false, Bool.or_false, Bool.true_or, Bool.or_true, Bool.false_or, Nat.le_refl]
theorem refu_p (M : Mem) {c : Nat} (h : 0 < c) (h2 : c < 4) : f_X9_refused (nI c) M = some (nI 1, wr M 7 0 4 (nI c)) := by
  unfold f_X9_refused
  simp (disch := omega) only [↓ite_b2r, ↓ite_nb2r, ↓lit_m1, ↓lit_m2, lit_0, lit_1, lit_2, lit_3, lit_4, lit_5, lit_6, lit_7, lit_8, lit_9, lit_10, lit_11, lit_12, lit_13, lit_14, lit_15, lit_16, lit_17, lit_18, lit_19, lit_20, lit_21, lit_22, lit_23, lit_24, lit_25, lit_26, lit_27, lit_28, lit_29, lit_30, lit_31, lit_32, lit_33, lit_34, lit_35, lit_36, lit_40, lit_41, lit_42, lit_44, lit_48, lit_57, lit_59, lit_62, lit_63, lit_64, lit_82, lit_98, lit_99, lit_100, lit_101, lit_102, lit_103, lit_104, lit_105, lit_106, lit_107, lit_108, lit_109, lit_110, lit_111, lit_112, lit_113, lit_119, lit_120, lit_127, lit_128, lit_149, lit_150, lit_202, lit_240, lit_262, lit_894, lit_900, lit_999, lit_1000, lit_2000, lit_2662, lit_2663, lit_2695, lit_2701, lit_2702, lit_3602, lit_10806, nI_add, pk_mul, cl_nI, inb_nI, nI_leI, nI_ltI, nI_eq, nI_eq_m1, m1_eq_nI, nI_eq_m2, div_nI, rem_nI, Option.bind_some, b2_0, b2_1, isb_b2, if_true_, if_false_, ↓reduceIte, reduceCtorEq, not_true_eq_false, not_false_eq_true, bt_hasBit, ult, Nat.add_zero, false_and, true_and, and_true, and_false, Nat.reduceLeDiff, Nat.reduceEqDiff, Nat.reduceLT, Bool.toNat_true, Bool.toNat_false, decide_true, decide_false, Bool.not_true, Bool.not_false, Bool.false_and, Bool.true_and, Bool.and_true, Bool.and_false, Bool.or_false, Bool.true_or, Bool.or_true, Bool.false_or, show ¬ c ≤ 0 by omega]
theorem refu_1 (M : Mem) : f_X9_refused (nI 1) M = some (nI 1, wr M 7 0 4 (nI 1)) := refu_p M (by decide) (by decide)
theorem refu_2 (M : Mem) : f_X9_refused (nI 2) M = some (nI 1, wr M 7 0 4 (nI 2)) := refu_p M (by decide) (by decide)
theorem refu_3 (M : Mem) : f_X9_refused (nI 3) M = some (nI 1, wr M 7 0 4 (nI 3)) := refu_p M (by decide) (by decide)
def TB (k : Nat) (N : Row) : Prop := WFa N ∧ cl (N 0) ≤ 30000 * k ∧ cl (N 1) ≤ k
def TX (M : Mem) : Prop := ∃ len, len ≤ 120 ∧ M.1 6 3 1 = nI len ∧ M.1 7 0 6 = nI len ∧ ∀ i, i < len → M.1 6 4 i = M.1 7 4 i ∧ isV (M.1 7 4) i 128
def SR (k : Nat) (M : Mem) : Prop := TB k (M.1 7 1) ∧ RD (M.1 0) (M.1 7 1) ∧ TX M ∧ ∃ n P, n ≤ 4 ∧ (∀ i, i < n → TB k (P i)) ∧ SVC M n P ∧ SVM M n P
theorem TB.up {k k' : Nat} {N : Row} (h : TB k N) (hk : k ≤ k') : TB k' N := ⟨h.1, by have := h.2.1; omega, by have := h.2.2; omega⟩
theorem TB_same {k : Nat} {N R : Row} (h : TB k N) (hR : WFa R) (h0 : R 0 = N 0) (h1 : R 1 = N 1) : TB (k + 1) R := ⟨hR, by rw [h0]; have := h.2.1; omega, by rw [h1]; have := h.2.2; omega⟩
theorem SVC_cg {M M' : Mem} {n : Nat} {P : Nat → Row} (h : SVC M n P) (h1 : M'.1 6 1 = M.1 6 1) (h2 : M'.1 6 2 = M.1 6 2) (hg : ∀ g, 2 ≤ g → g < 6 → M'.1 g = M.1 g) : SVC M' n P := by
  obtain ⟨s1, s2, σ, t1, t2, t3⟩ := h
  exact ⟨s1, by rw [h1]; exact s2, σ, fun i hi => by rw [h2]; exact t1 i hi, t2, fun i hi => by rw [hg _ (by omega) (by have := (t1 i (by omega)).2; omega)]; exact t3 i hi⟩
theorem SVM_cg {M M' : Mem} {n : Nat} {P : Nat → Row} (h : SVM M n P) (h1 : M'.1 7 0 3 = M.1 7 0 3) (h2 : M'.1 7 2 = M.1 7 2) : SVM M' n P := ⟨by rw [h1]; exact h.1, fun i hi x hx => by rw [h2]; exact h.2 i hi x hx⟩
theorem TX_cg {M M' : Mem} (h : TX M) (h1 : M'.1 6 3 1 = M.1 6 3 1) (h2 : M'.1 6 4 = M.1 6 4) (h3 : M'.1 7 0 6 = M.1 7 0 6) (h4 : M'.1 7 4 = M.1 7 4) : TX M' := by
  obtain ⟨len, a, b, c, d⟩ := h
  exact ⟨len, a, by rw [h1]; exact b, by rw [h3]; exact c, fun i hi => by rw [h2, h4]; exact d i hi⟩
/-- one call of both sides -/
def okc (k : Nat) (M : Mem) (fL fM : Mem → Option (Int32 × Mem)) : Prop := ∃ r M1 b M2, fL M = some (r, M1) ∧ fM M1 = some (b, M2) ∧ M2.1 7 0 4 = r ∧ (r = 0 → M2.2 8 = b.toInt64) ∧ SR (k + 1) M2
/-- the desk is untouched, the reference's row too; scratch may be another -/
theorem SR_keep {k : Nat} {M M' : Mem} (h : SR k M) (h0 : M'.1 0 = M.1 0) (hg : ∀ g, 2 ≤ g → g < 6 → M'.1 g = M.1 g) (h6 : ∀ j, j < 5 → M'.1 6 j = M.1 6 j) (hr : eqR 0 3602 (M'.1 7 1) (M.1 7 1)) (h2 : M'.1 7 2 = M.1 7 2) (h4 : M'.1 7 4 = M.1 7 4) (h03 : M'.1 7 0 3 = M.1 7 0 3) (h06 : M'.1 7 0 6 = M.1 7 0 6) : SR (k + 1) M' := by
  obtain ⟨t, r, x, n, P, a, b, c, d⟩ := h
  refine ⟨TB_same t ⟨WF_cgA hr t.1.1, WFx_c (hr.sub (by omega) (by omega)) (hr.sub (by omega) (by omega)) t.1.1.1 t.1.1.2.1 t.1.2⟩ (hr 0 (by omega) (by omega)) (hr 1 (by omega) (by omega)), ?_, TX_cg x (by rw [h6 3 (by omega)]) (h6 4 (by omega)) h06 h4, n, P, a, fun i hi => (b i hi).up (by omega), SVC_cg c (h6 1 (by omega)) (h6 2 (by omega)) hg, SVM_cg d h03 h2⟩
  rw [h0]
  exact RD_cgA hr t.1.1 r
theorem SR_ref {k : Nat} {M : Mem} (h : SR k M) (v : Int32) : SR (k + 1) (wr M 7 0 4 v) := by
  have h1 : ∀ j, j ≠ 0 → (wr M 7 0 4 v).1 7 j = M.1 7 j := fun j hj => wr_other _ _ _ _ _ (by omega)
  refine SR_keep h (wr_ng _ _ _ _ (by omega)) (fun g _ hg => wr_ng _ _ _ _ (by omega)) (fun j _ => by rw [wr_ng _ _ _ _ (by omega)]) (by rw [h1 1 (by omega)]; exact eqR.rf) (h1 2 (by omega)) (h1 4 (by omega)) ?_ ?_
  · rw [wr_same, upd_other (by omega)]
  · rw [wr_same, upd_other (by omega)]
theorem okc_r {k : Nat} {M : Mem} {fL fM : Mem → Option (Int32 × Mem)} (h : SR k M) {r : Nat} (hr : 0 < r ∧ r < 4) {b : Int32} (hL : fL M = some (nI r, M)) (hM : fM M = some (b, wr M 7 0 4 (nI r))) : okc k M fL fM := by
  refine ⟨nI r, M, b, _, hL, hM, by rw [wr_same, upd_same], fun e => ?_, SR_ref h _⟩
  have e2 : nI r = nI 0 := e
  rw [nI_eq (by omega) (by omega)] at e2
  omega
theorem wrL_1 (M : Mem) (g : Nat) (v : Int64) : (wrL M g v).1 = M.1 := rfl
theorem wrL_8 (M : Mem) (v : Int64) : (wrL M 8 v).2 8 = v := by
  show (if 8 = 8 then v else M.2 8) = v
  exact if_pos rfl
/-- an answer that changes nothing (but scratch) -/
theorem okc_g {k : Nat} {M M' : Mem} {fL fM : Mem → Option (Int32 × Mem)} (h : SR k M) {a : Int32} (hL : fL M = some (nI 0, wrL M' 8 a.toInt64)) (h0 : M'.1 0 = M.1 0) (hg : ∀ g, 2 ≤ g → g < 6 → M'.1 g = M.1 g) (h6 : ∀ j, j < 5 → M'.1 6 j = M.1 6 j) (h7 : M'.1 7 = M.1 7) (hM : ∀ M1 : Mem, M1.1 7 = M.1 7 → ∃ M2, fM M1 = some (a, M2) ∧ M2.2 8 = M1.2 8 ∧ M2.1 7 0 4 = nI 0 ∧ (∀ g, g < 7 → M2.1 g = M1.1 g) ∧ eqR 0 3602 (M2.1 7 1) (M1.1 7 1) ∧ M2.1 7 2 = M1.1 7 2 ∧ M2.1 7 4 = M1.1 7 4 ∧ M2.1 7 0 3 = M1.1 7 0 3 ∧ M2.1 7 0 6 = M1.1 7 0 6) : okc k M fL fM := by
  obtain ⟨M2, a1, a2, a3, a4, a5, a6, a7, a8, a9⟩ := hM (wrL M' 8 a.toInt64) h7
  rw [wrL_1] at a4 a5 a6 a7 a8 a9
  refine ⟨nI 0, _, a, M2, hL, a1, a3, fun _ => a2.trans (wrL_8 _ _), SR_keep h ?_ (fun g x y => ?_) (fun j hj => ?_) ?_ ?_ ?_ ?_ ?_⟩
  · rw [a4 0 (by omega)]; exact h0
  · rw [a4 g (by omega)]; exact hg g x y
  · rw [a4 6 (by omega)]; exact h6 j hj
  · rw [← h7]; exact a5
  · rw [← h7]; exact a6
  · rw [← h7]; exact a7
  · rw [← h7]; exact a8
  · rw [← h7]; exact a9
/-- the same where the reference only puts its refusal to 0 -/
theorem okc_q {k : Nat} {M : Mem} {fL fM : Mem → Option (Int32 × Mem)} (h : SR k M) {a : Int32} (hL : fL M = some (nI 0, wrL M 8 a.toInt64)) (hM : ∀ M1 : Mem, M1.1 7 = M.1 7 → fM M1 = some (a, wr M1 7 0 4 (nI 0))) : okc k M fL fM :=
  okc_g h hL rfl (fun _ _ _ => rfl) (fun _ _ => rfl) rfl (fun M1 h1 => ⟨_, hM M1 h1, rfl, by rw [wr_same, upd_same], fun g hg => wr_ng _ _ _ _ (by omega), by rw [wr_other _ _ _ _ _ (by omega)]; exact eqR.rf, wr_other _ _ _ _ _ (by omega), wr_other _ _ _ _ _ (by omega), by rw [wr_same, upd_other (by omega)], by rw [wr_same, upd_other (by omega)]⟩)
theorem TB_push {k n : Nat} {P : Nat → Row} {N : Row} (hn : n ≤ 4) (hP : ∀ i, i < n → TB k (P i)) (hN : TB k N) : pushN n ≤ 4 ∧ ∀ i, i < pushN n → TB (k + 1) (pushP n P N i) := by
  unfold pushN pushP
  by_cases h : n = 4
  · rw [if_pos h]
    refine ⟨Nat.le_refl _, fun i hi => ?_⟩
    rw [if_pos h]
    by_cases h3 : i = 3
    · rw [if_pos h3]; exact hN.up (by omega)
    · rw [if_neg h3]; exact (hP (i + 1) (by omega)).up (by omega)
  · rw [if_neg h]
    refine ⟨by omega, fun i hi => ?_⟩
    rw [if_neg h]
    by_cases h3 : i = n
    · rw [if_pos h3]; exact hN.up (by omega)
    · rw [if_neg h3]; exact (hP i (by omega)).up (by omega)
theorem okc_u2 {k : Nat} {M : Mem} {fL fM : Mem → Option (Int32 × Mem)} {now : Mem → Option (Nat × Int32 × Mem)} {op : Mem → Option (Int32 × Mem)} {ans : Int32} {R : Row} (h : SR k M)
    (hL : ∀ M2, (f_X6_push 0 M).bind now = some (0, ans, M2) → fL M = some (nI 0, wrL M2 8 ans.toInt64))
    (hM : ∀ M1 : Mem, M1.1 7 = M.1 7 → ∃ W, FrN M1 W ∧ W.1 7 1 = M.1 7 1 ∧ fM M1 = (f_X9_saves (wr W 7 0 4 (nI 0))).bind op)
    (hnow : ∀ M1 : Mem, RD (M1.1 0) (M.1 7 1) → ∃ M2, now M1 = some (0, ans, M2) ∧ RD (M2.1 0) R ∧ Fr 0 M1 M2)
    (hop : ∀ M1 : Mem, M1.1 7 1 = M.1 7 1 → ∃ M2, op M1 = some (ans, M2) ∧ M2.1 7 1 = R ∧ FrN M1 M2)
    (hR : TB (k + 1) R) : okc k M fL fM := by
  obtain ⟨t, r, x, n, P, a, b, c, d⟩ := h
  obtain ⟨M1, p1, p2, p3⟩ := c_push c t.1 r
  obtain ⟨M2, n1, n2, n3⟩ := hnow M1 (by rw [p3.1]; exact r)
  have h7 : M2.1 7 = M.1 7 := (n3.1 7 (by omega)).trans p3.2.2.1
  obtain ⟨W, f1, f2, f3⟩ := hM (wrL M2 8 ans.toInt64) h7
  have f0 : W.1 7 0 = M.1 7 0 := by rw [f1.2.2 0 (by omega) (by omega) (by omega) (by omega), wrL_1, h7]
  have f5 : ∀ j, j = 2 ∨ j = 4 → W.1 7 j = M.1 7 j := fun j hj => by rw [f1.2.2 j (by omega) (by omega) (by omega) (by omega), wrL_1, h7]
  have hw3 : (wr W 7 0 4 (nI 0)).1 7 0 3 = M.1 7 0 3 := by rw [wr_same, upd_other (by omega), f0]
  have hw6 : (wr W 7 0 4 (nI 0)).1 7 0 6 = M.1 7 0 6 := by rw [wr_same, upd_other (by omega), f0]
  have hw1 : (wr W 7 0 4 (nI 0)).1 7 1 = M.1 7 1 := by rw [wr_other _ _ _ _ _ (by omega), f2]
  have hwj : ∀ j, j = 2 ∨ j = 4 → (wr W 7 0 4 (nI 0)).1 7 j = M.1 7 j := fun j hj => by rw [wr_other _ _ _ _ _ (by omega), f5 j hj]
  obtain ⟨M4, s1, s2, s3⟩ := m_saves (M := wr W 7 0 4 (nI 0)) (SVM_cg d hw3 (hwj 2 (by omega))) a
  have h41 : M4.1 7 1 = M.1 7 1 := (s3.2.2.1 1 (by omega) (by omega)).trans hw1
  obtain ⟨M5, o1, o2, o3⟩ := hop M4 h41
  have hgrp : ∀ g, g ≠ 7 → M5.1 g = M2.1 g := fun g hg => (o3.1 g hg).trans ((s3.1 g hg).trans ((wr_ng _ _ _ _ hg).trans (f1.1 g hg)))
  obtain ⟨q1, q2⟩ := TB_push a b t
  refine ⟨nI 0, wrL M2 8 ans.toInt64, ans, M5, hL M2 (by rw [p1, Option.bind_some, n1]), by rw [f3, s1, Option.bind_some, o1], ?_, fun _ => ?_, ?_, ?_, ?_, pushN n, pushP n P (M.1 7 1), q1, q2, ?_, ?_⟩
  · rw [o3.2.2 0 (by omega) (by omega) (by omega) (by omega), s3.2.2.2 4 (by omega), wr_same, upd_same]
  · rw [o3.2.1, s3.2.1, wr_2, f1.2.1]
    exact wrL_8 M2 _
  · rw [o2]; exact hR
  · rw [hgrp 0 (by omega), o2]; exact n2
  · refine TX_cg x ?_ ?_ ?_ ?_
    · rw [hgrp 6 (by omega), n3.1 6 (by omega), p3.2.2.2.2 3 (by omega) (by omega)]
    · rw [hgrp 6 (by omega), n3.1 6 (by omega), p3.2.2.2.2 4 (by omega) (by omega)]
    · rw [o3.2.2 0 (by omega) (by omega) (by omega) (by omega), s3.2.2.2 6 (by omega), hw6]
    · rw [o3.2.2 4 (by omega) (by omega) (by omega) (by omega), s3.2.2.1 4 (by omega) (by omega), hwj 4 (by omega)]
  · exact SVC_cg p2 (by rw [hgrp 6 (by omega), n3.1 6 (by omega)]) (by rw [hgrp 6 (by omega), n3.1 6 (by omega)]) (fun g h1 h2 => by rw [hgrp g (by omega), n3.1 g (by omega)])
  · rw [hw1] at s2
    exact SVM_cg s2 (by rw [o3.2.2 0 (by omega) (by omega) (by omega) (by omega)]) (o3.2.2 2 (by omega) (by omega) (by omega) (by omega))
theorem okc_u {k : Nat} {M : Mem} {fL fM : Mem → Option (Int32 × Mem)} {now : Mem → Option (Nat × Int32 × Mem)} {op : Mem → Option (Int32 × Mem)} {ans : Int32} {R : Row} (h : SR k M)
    (hL : ∀ M2, (f_X6_push 0 M).bind now = some (0, ans, M2) → fL M = some (nI 0, wrL M2 8 ans.toInt64))
    (hM : ∀ M1 : Mem, M1.1 7 = M.1 7 → fM M1 = (f_X9_saves (wr M1 7 0 4 (nI 0))).bind op)
    (hnow : ∀ M1 : Mem, RD (M1.1 0) (M.1 7 1) → ∃ M2, now M1 = some (0, ans, M2) ∧ RD (M2.1 0) R ∧ Fr 0 M1 M2)
    (hop : ∀ M1 : Mem, M1.1 7 1 = M.1 7 1 → ∃ M2, op M1 = some (ans, M2) ∧ M2.1 7 1 = R ∧ FrN M1 M2)
    (hR : TB (k + 1) R) : okc k M fL fM := okc_u2 h hL (fun M1 h1 => ⟨M1, FrN.rf, by rw [h1], hM M1 h1⟩) hnow hop hR
theorem okc_r2 {k : Nat} {M M' : Mem} {fL fM : Mem → Option (Int32 × Mem)} (h : SR k M) {r : Nat} (hr : 0 < r ∧ r < 4) {b : Int32} (hL : fL M = some (nI r, M)) (hM : fM M = some (b, wr M' 7 0 4 (nI r))) (hF : FrN M M') (h71 : M'.1 7 1 = M.1 7 1) : okc k M fL fM := by
  refine ⟨nI r, M, b, _, hL, hM, by rw [wr_same, upd_same], fun e => ?_, SR_keep h ?_ (fun g _ hg => ?_) (fun j _ => ?_) ?_ ?_ ?_ ?_ ?_⟩
  · have e2 : nI r = nI 0 := e
    rw [nI_eq (by omega) (by omega)] at e2
    omega
  · rw [wr_ng _ _ _ _ (by omega), hF.1 0 (by omega)]
  · rw [wr_ng _ _ _ _ (by omega), hF.1 g (by omega)]
  · rw [wr_ng _ _ _ _ (by omega), hF.1 6 (by omega)]
  · rw [wr_other _ _ _ _ _ (by omega), h71]; exact eqR.rf
  · rw [wr_other _ _ _ _ _ (by omega), hF.2.2 2 (by omega) (by omega) (by omega) (by omega)]
  · rw [wr_other _ _ _ _ _ (by omega), hF.2.2 4 (by omega) (by omega) (by omega) (by omega)]
  · rw [wr_same, upd_other (by omega), hF.2.2 0 (by omega) (by omega) (by omega) (by omega)]
  · rw [wr_same, upd_other (by omega), hF.2.2 0 (by omega) (by omega) (by omega) (by omega)]
