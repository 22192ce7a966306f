/-! ===== the history: one more entry ===== -/
def shE (N : Row) : Row := fun k => if 2702 ≤ k ∧ k < 3596 then N (k + 6) else if k = 2701 then nI 149 else N k
def putE (N : Row) (h : Nat) (v0 v1 v2 v3 v4 v5 : Int32) : Row := fun k => if k = 2701 then nI (h + 1) else if k = 2702 + 6 * h then v0 else if k = 2702 + 6 * h + 1 then v1 else if k = 2702 + 6 * h + 2 then v2 else if k = 2702 + 6 * h + 3 then v3 else if k = 2702 + 6 * h + 4 then v4 else if k = 2702 + 6 * h + 5 then v5 else N k
def gEnt (N : Row) (s l : Nat) (b a u : Int32) : Row := if hn N = 150 then putE (shE N) 149 (N 0) (nI s) (nI l) b a u else putE N (hn N) (N 0) (nI s) (nI l) b a u
theorem upd7 (N : Row) {h : Nat} (hh : h < 150) (v0 v1 v2 v3 v4 v5 : Int32) : upd (upd (upd (upd (upd (upd (upd N (2702 + 6 * h) v0) (2702 + 6 * h + 1) v1) (2702 + 6 * h + 2) v2) (2702 + 6 * h + 3) v3) (2702 + 6 * h + 4) v4) (2702 + 6 * h + 5) v5) 2701 (nI (h + 1)) = putE N h v0 v1 v2 v3 v4 v5 := by
  funext k
  unfold putE
  by_cases c : k = 2701
  · subst c; rw [upd_same, if_pos rfl]
  rw [upd_other c, if_neg c]
  by_cases c5 : k = 2702 + 6 * h + 5
  · subst c5; rw [upd_same, if_neg (by omega), if_neg (by omega), if_neg (by omega), if_neg (by omega), if_neg (by omega), if_pos rfl]
  rw [upd_other c5]
  by_cases c4 : k = 2702 + 6 * h + 4
  · subst c4; rw [upd_same, if_neg (by omega), if_neg (by omega), if_neg (by omega), if_neg (by omega), if_pos rfl]
  rw [upd_other c4]
  by_cases c3 : k = 2702 + 6 * h + 3
  · subst c3; rw [upd_same, if_neg (by omega), if_neg (by omega), if_neg (by omega), if_pos rfl]
  rw [upd_other c3]
  by_cases c2 : k = 2702 + 6 * h + 2
  · subst c2; rw [upd_same, if_neg (by omega), if_neg (by omega), if_pos rfl]
  rw [upd_other c2]
  by_cases c1 : k = 2702 + 6 * h + 1
  · subst c1; rw [upd_same, if_neg (by omega), if_pos rfl]
  rw [upd_other c1]
  by_cases c0 : k = 2702 + 6 * h
  · subst c0; rw [upd_same, if_pos rfl]
  rw [upd_other c0, if_neg c0, if_neg c1, if_neg c2, if_neg c3, if_neg c4, if_neg c5]
theorem m_enters68 (M : Mem) (N : Row) {h : Nat} (hh : h < 150) (hN : N 2701 = nI h) (x1 x2 x3 x4 x5 : Int32) : B_X9_enters_68 x1 x2 x3 x4 x5 (wrs M 7 1 N) = some (wrs M 7 1 (putE N h (N 0) x1 x2 x3 x4 x5)) := by
  unfold B_X9_enters_68
  simp (disch := omega) only [↓ite_b2r, ↓ite_nb2r, ↓lit_m1, ↓lit_m2, lit_0, lit_1, lit_2, lit_3, lit_4, lit_5, lit_6, lit_7, lit_8, lit_9, lit_10, lit_11, lit_12, lit_13, lit_14, lit_15, lit_16, lit_17, lit_18, lit_19, lit_20, lit_21, lit_22, lit_23, lit_24, lit_25, lit_26, lit_27, lit_28, lit_29, lit_30, lit_31, lit_32, lit_33, lit_34, lit_35, lit_36, lit_40, lit_41, lit_42, lit_44, lit_48, lit_57, lit_59, lit_62, lit_63, lit_64, lit_82, lit_98, lit_99, lit_100, lit_101, lit_102, lit_103, lit_104, lit_105, lit_106, lit_107, lit_108, lit_109, lit_110, lit_111, lit_112, lit_113, lit_119, lit_120, lit_127, lit_128, lit_149, lit_150, lit_202, lit_240, lit_262, lit_894, lit_900, lit_999, lit_1000, lit_2000, lit_2662, lit_2663, lit_2695, lit_2701, lit_2702, lit_3602, lit_10806, nI_add, pk_mul, cl_nI, inb_nI, nI_leI, nI_ltI, nI_eq, nI_eq_m1, m1_eq_nI, nI_eq_m2, div_nI, rem_nI, Option.bind_some, b2_0, b2_1, isb_b2, if_true_, if_false_, ↓reduceIte, reduceCtorEq, not_true_eq_false, not_false_eq_true, bt_hasBit, ult, Nat.add_zero, false_and, true_and, and_true, and_false, Nat.reduceLeDiff, Nat.reduceEqDiff, Nat.reduceLT, Bool.toNat_true, Bool.toNat_false, decide_true, decide_false, Bool.not_true, Bool.not_false, Bool.false_and, Bool.true_and, Bool.and_true, Bool.and_false, Bool.or_false, Bool.true_or, Bool.or_true, Bool.false_or, wrs_same, hN, wr_wrs]
  have e2701 : ∀ {f : Nat → Int32} {k : Nat} {v : Int32}, k ≠ 2701 → upd f k v 2701 = f 2701 := fun hk => upd_other (Ne.symm hk)
  rw [upd_other (by omega), upd_other (by omega), upd_other (by omega), upd_other (by omega), upd_other (by omega), upd_other (by omega), hN, nI_add, upd7 N hh]
theorem m_enters {M : Mem} (h : WFh (M.1 7 1)) (s l : Nat) (b a u : Int32) : f_X9_enters (nI s) (nI l) b a u M = some (wrs M 7 1 (gEnt (M.1 7 1) s l b a u)) := by
  have e0 : M.1 7 1 2701 = nI (hn (M.1 7 1)) := h.1.1
  have hl : hn (M.1 7 1) < 151 := h.1.2
  unfold f_X9_enters gEnt
  by_cases hf : hn (M.1 7 1) = 150
  · simp (disch := omega) only [↓ite_b2r, ↓ite_nb2r, ↓lit_m1, ↓lit_m2, lit_0, lit_1, lit_2, lit_3, lit_4, lit_5, lit_6, lit_7, lit_8, lit_9, lit_10, lit_11, lit_12, lit_13, lit_14, lit_15, lit_16, lit_17, lit_18, lit_19, lit_20, lit_21, lit_22, lit_23, lit_24, lit_25, lit_26, lit_27, lit_28, lit_29, lit_30, lit_31, lit_32, lit_33, lit_34, lit_35, lit_36, lit_40, lit_41, lit_42, lit_44, lit_48, lit_57, lit_59, lit_62, lit_63, lit_64, lit_82, lit_98, lit_99, lit_100, lit_101, lit_102, lit_103, lit_104, lit_105, lit_106, lit_107, lit_108, lit_109, lit_110, lit_111, lit_112, lit_113, lit_119, lit_120, lit_127, lit_128, lit_149, lit_150, lit_202, lit_240, lit_262, lit_894, lit_900, lit_999, lit_1000, lit_2000, lit_2662, lit_2663, lit_2695, lit_2701, lit_2702, lit_3602, lit_10806, nI_add, pk_mul, cl_nI, inb_nI, nI_leI, nI_ltI, nI_eq, nI_eq_m1, m1_eq_nI, nI_eq_m2, div_nI, rem_nI, Option.bind_some, b2_0, b2_1, isb_b2, if_true_, if_false_, ↓reduceIte, reduceCtorEq, not_true_eq_false, not_false_eq_true, bt_hasBit, ult, Nat.add_zero, false_and, true_and, and_true, and_false, Nat.reduceLeDiff, Nat.reduceEqDiff, Nat.reduceLT, Bool.toNat_true, Bool.toNat_false, decide_true, decide_false, Bool.not_true, Bool.not_false, Bool.false_and, Bool.true_and, Bool.and_true, Bool.and_false, Bool.or_false, Bool.true_or, Bool.or_true, Bool.false_or, e0, hf]
    refine loop0 (fun n (σ : Int32 × Mem) => L_X9_enters_17 (nI s) (nI l) b a u n σ.1 σ.2) (fun k => (nI k, wrs M 7 1 (fun i => if 2702 ≤ i ∧ i < 2702 + k then M.1 7 1 (i + 6) else M.1 7 1 i))) 894 (nI 0, M) ?_ (fun n k hk => ?_) (fun n => ?_) FU (by decide)
    · refine Prod.ext rfl ?_
      have : (fun i => if 2702 ≤ i ∧ i < 2702 + 0 then M.1 7 1 (i + 6) else M.1 7 1 i) = M.1 7 1 := by
        funext i
        rw [if_neg (by omega)]
      show wrs M 7 1 _ = M
      rw [this, wrs_self]
    · show L_X9_enters_17 _ _ b a u (n + 1) _ _ = L_X9_enters_17 _ _ b a u n _ _
      rw [L_X9_enters_17]
      simp (disch := omega) only [↓ite_b2r, ↓ite_nb2r, ↓lit_m1, ↓lit_m2, lit_0, lit_1, lit_2, lit_3, lit_4, lit_5, lit_6, lit_7, lit_8, lit_9, lit_10, lit_11, lit_12, lit_13, lit_14, lit_15, lit_16, lit_17, lit_18, lit_19, lit_20, lit_21, lit_22, lit_23, lit_24, lit_25, lit_26, lit_27, lit_28, lit_29, lit_30, lit_31, lit_32, lit_33, lit_34, lit_35, lit_36, lit_40, lit_41, lit_42, lit_44, lit_48, lit_57, lit_59, lit_62, lit_63, lit_64, lit_82, lit_98, lit_99, lit_100, lit_101, lit_102, lit_103, lit_104, lit_105, lit_106, lit_107, lit_108, lit_109, lit_110, lit_111, lit_112, lit_113, lit_119, lit_120, lit_127, lit_128, lit_149, lit_150, lit_202, lit_240, lit_262, lit_894, lit_900, lit_999, lit_1000, lit_2000, lit_2662, lit_2663, lit_2695, lit_2701, lit_2702, lit_3602, lit_10806, nI_add, pk_mul, cl_nI, inb_nI, nI_leI, nI_ltI, nI_eq, nI_eq_m1, m1_eq_nI, nI_eq_m2, div_nI, rem_nI, Option.bind_some, b2_0, b2_1, isb_b2, if_true_, if_false_, ↓reduceIte, reduceCtorEq, not_true_eq_false, not_false_eq_true, bt_hasBit, ult, Nat.add_zero, false_and, true_and, and_true, and_false, Nat.reduceLeDiff, Nat.reduceEqDiff, Nat.reduceLT, Bool.toNat_true, Bool.toNat_false, decide_true, decide_false, Bool.not_true, Bool.not_false, Bool.false_and, Bool.true_and, Bool.and_true, Bool.and_false, Bool.or_false, Bool.true_or, Bool.or_true, Bool.false_or, Nat.not_le.mpr hk, wrs_same, wr_wrs]
      congr 2
      funext i
      by_cases hi : i = 2702 + k
      · subst hi
        rw [upd_same, if_neg (by omega), if_pos (by omega)]
      · rw [upd_other hi]
        by_cases h2 : 2702 ≤ i ∧ i < 2702 + k
        · rw [if_pos h2, if_pos (by omega)]
        · rw [if_neg h2, if_neg (by omega)]
    · show L_X9_enters_17 _ _ b a u (n + 1) _ _ = _
      rw [L_X9_enters_17]
      simp (disch := omega) only [↓ite_b2r, ↓ite_nb2r, ↓lit_m1, ↓lit_m2, lit_0, lit_1, lit_2, lit_3, lit_4, lit_5, lit_6, lit_7, lit_8, lit_9, lit_10, lit_11, lit_12, lit_13, lit_14, lit_15, lit_16, lit_17, lit_18, lit_19, lit_20, lit_21, lit_22, lit_23, lit_24, lit_25, lit_26, lit_27, lit_28, lit_29, lit_30, lit_31, lit_32, lit_33, lit_34, lit_35, lit_36, lit_40, lit_41, lit_42, lit_44, lit_48, lit_57, lit_59, lit_62, lit_63, lit_64, lit_82, lit_98, lit_99, lit_100, lit_101, lit_102, lit_103, lit_104, lit_105, lit_106, lit_107, lit_108, lit_109, lit_110, lit_111, lit_112, lit_113, lit_119, lit_120, lit_127, lit_128, lit_149, lit_150, lit_202, lit_240, lit_262, lit_894, lit_900, lit_999, lit_1000, lit_2000, lit_2662, lit_2663, lit_2695, lit_2701, lit_2702, lit_3602, lit_10806, nI_add, pk_mul, cl_nI, inb_nI, nI_leI, nI_ltI, nI_eq, nI_eq_m1, m1_eq_nI, nI_eq_m2, div_nI, rem_nI, Option.bind_some, b2_0, b2_1, isb_b2, if_true_, if_false_, ↓reduceIte, reduceCtorEq, not_true_eq_false, not_false_eq_true, bt_hasBit, ult, Nat.add_zero, false_and, true_and, and_true, and_false, Nat.reduceLeDiff, Nat.reduceEqDiff, Nat.reduceLT, Bool.toNat_true, Bool.toNat_false, decide_true, decide_false, Bool.not_true, Bool.not_false, Bool.false_and, Bool.true_and, Bool.and_true, Bool.and_false, Bool.or_false, Bool.true_or, Bool.or_true, Bool.false_or, Nat.le_refl, wrs_same, wr_wrs, e0, hf]
      rw [show nI 150 - nI 1 = nI 149 from pk_sub (by omega)]
      have e1 : upd (fun i => if 2702 ≤ i ∧ i < 2702 + 894 then M.1 7 1 (i + 6) else M.1 7 1 i) 2701 (nI 149) = shE (M.1 7 1) := by
        funext i
        unfold shE
        by_cases hi : i = 2701
        · subst hi; rw [upd_same, if_neg (by omega), if_pos rfl]
        · rw [upd_other hi]
          by_cases h2 : 2702 ≤ i ∧ i < 3596
          · rw [if_pos h2, if_pos (by omega)]
          · rw [if_neg h2, if_neg (by omega), if_neg hi]
      rw [e1, m_enters68 M (shE (M.1 7 1)) (h := 149) (by omega) (by unfold shE; rw [if_neg (by omega), if_pos rfl])]
      rw [show shE (M.1 7 1) 0 = M.1 7 1 0 from by unfold shE; rw [if_neg (by omega), if_neg (by omega)]]
  · simp (disch := omega) only [↓ite_b2r, ↓ite_nb2r, ↓lit_m1, ↓lit_m2, lit_0, lit_1, lit_2, lit_3, lit_4, lit_5, lit_6, lit_7, lit_8, lit_9, lit_10, lit_11, lit_12, lit_13, lit_14, lit_15, lit_16, lit_17, lit_18, lit_19, lit_20, lit_21, lit_22, lit_23, lit_24, lit_25, lit_26, lit_27, lit_28, lit_29, lit_30, lit_31, lit_32, lit_33, lit_34, lit_35, lit_36, lit_40, lit_41, lit_42, lit_44, lit_48, lit_57, lit_59, lit_62, lit_63, lit_64, lit_82, lit_98, lit_99, lit_100, lit_101, lit_102, lit_103, lit_104, lit_105, lit_106, lit_107, lit_108, lit_109, lit_110, lit_111, lit_112, lit_113, lit_119, lit_120, lit_127, lit_128, lit_149, lit_150, lit_202, lit_240, lit_262, lit_894, lit_900, lit_999, lit_1000, lit_2000, lit_2662, lit_2663, lit_2695, lit_2701, lit_2702, lit_3602, lit_10806, nI_add, pk_mul, cl_nI, inb_nI, nI_leI, nI_ltI, nI_eq, nI_eq_m1, m1_eq_nI, nI_eq_m2, div_nI, rem_nI, Option.bind_some, b2_0, b2_1, isb_b2, if_true_, if_false_, ↓reduceIte, reduceCtorEq, not_true_eq_false, not_false_eq_true, bt_hasBit, ult, Nat.add_zero, false_and, true_and, and_true, and_false, Nat.reduceLeDiff, Nat.reduceEqDiff, Nat.reduceLT, Bool.toNat_true, Bool.toNat_false, decide_true, decide_false, Bool.not_true, Bool.not_false, Bool.false_and, Bool.true_and, Bool.and_true, Bool.and_false, Bool.or_false, Bool.true_or, Bool.or_true, Bool.false_or, e0, hf]
    have := m_enters68 M (M.1 7 1) (h := hn (M.1 7 1)) (by omega) e0 (nI s) (nI l) b a u
    rw [wrs_self] at this
    exact this
theorem gEnt_lo {N : Row} {s l : Nat} {b a u : Int32} {k : Nat} (h : k < 2701) : gEnt N s l b a u k = N k := by
  unfold gEnt putE shE
  by_cases hf : hn N = 150
  · rw [if_pos hf, if_neg (by omega), if_neg (by omega), if_neg (by omega), if_neg (by omega), if_neg (by omega), if_neg (by omega), if_neg (by omega), if_neg (by omega), if_neg (by omega)]
  · rw [if_neg hf, if_neg (by omega), if_neg (by omega), if_neg (by omega), if_neg (by omega), if_neg (by omega), if_neg (by omega), if_neg (by omega)]
theorem gEnt_hi {N : Row} (hN : WFh N) {s l : Nat} {b a u : Int32} {k : Nat} (h : 3602 ≤ k) : gEnt N s l b a u k = N k := by
  have hl : hn N < 151 := hN.1.2
  unfold gEnt putE shE
  by_cases hf : hn N = 150
  · rw [if_pos hf, if_neg (by omega), if_neg (by omega), if_neg (by omega), if_neg (by omega), if_neg (by omega), if_neg (by omega), if_neg (by omega), if_neg (by omega), if_neg (by omega)]
  · rw [if_neg hf, if_neg (by omega), if_neg (by omega), if_neg (by omega), if_neg (by omega), if_neg (by omega), if_neg (by omega), if_neg (by omega)]
/-- how many there are then, and what the e-th is: an old one, or the new one -/
def oldE (N : Row) (e : Nat) : Nat := if hn N = 150 then e + 1 else e
theorem gEnt_n {N : Row} (hN : WFh N) {s l : Nat} {b a u : Int32} : gEnt N s l b a u 2701 = nI (if hn N = 150 then 150 else hn N + 1) := by
  unfold gEnt putE
  by_cases hf : hn N = 150
  · rw [if_pos hf, if_pos hf, if_pos rfl]
  · rw [if_neg hf, if_neg hf, if_pos rfl]
theorem gEnt_hn {N : Row} (hN : WFh N) {s l : Nat} {b a u : Int32} : hn (gEnt N s l b a u) = if hn N = 150 then 150 else hn N + 1 := by
  have hl : hn N < 151 := hN.1.2
  show cl (gEnt N s l b a u 2701) = _
  rw [gEnt_n hN]
  by_cases hf : hn N = 150
  · rw [if_pos hf, cl_nI (by omega)]
  · rw [if_neg hf, cl_nI (by omega)]
theorem gEnt_old {N : Row} (hN : WFh N) {s l : Nat} {b a u : Int32} {e w : Nat} (hw : w < 6) (he : e + 1 < hn (gEnt N s l b a u)) : gEnt N s l b a u (2702 + 6 * e + w) = N (2702 + 6 * oldE N e + w) ∧ oldE N e < hn N := by
  rw [gEnt_hn hN] at he
  unfold gEnt putE shE oldE
  by_cases hf : hn N = 150
  · rw [if_pos hf] at he
    rw [if_pos hf, if_pos hf, if_neg (by omega), if_neg (by omega), if_neg (by omega), if_neg (by omega), if_neg (by omega), if_neg (by omega), if_neg (by omega), if_pos (by omega)]
    exact ⟨by congr 1; omega, by omega⟩
  · rw [if_neg hf] at he
    rw [if_neg hf, if_neg hf, if_neg (by omega), if_neg (by omega), if_neg (by omega), if_neg (by omega), if_neg (by omega), if_neg (by omega), if_neg (by omega)]
    exact ⟨rfl, by omega⟩
def newE (N : Row) (s l : Nat) (b a u : Int32) (w : Nat) : Int32 := if w = 0 then N 0 else if w = 1 then nI s else if w = 2 then nI l else if w = 3 then b else if w = 4 then a else u
theorem gEnt_new {N : Row} (hN : WFh N) {s l : Nat} {b a u : Int32} {e w : Nat} (hw : w < 6) (he : e + 1 = hn (gEnt N s l b a u)) : gEnt N s l b a u (2702 + 6 * e + w) = newE N s l b a u w := by
  have hl : hn N < 151 := hN.1.2
  rw [gEnt_hn hN] at he
  have key : ∀ (P : Row) (h : Nat), putE P h (N 0) (nI s) (nI l) b a u (2702 + 6 * h + w) = newE N s l b a u w := by
    intro P h
    unfold putE newE
    rw [if_neg (by omega)]
    match w, hw with
    | 0, _ => rw [Nat.add_zero, if_pos rfl, if_pos rfl]
    | 1, _ => rw [if_neg (by omega), if_pos rfl]; rfl
    | 2, _ => rw [if_neg (by omega), if_neg (by omega), if_pos rfl]; rfl
    | 3, _ => rw [if_neg (by omega), if_neg (by omega), if_neg (by omega), if_pos rfl]; rfl
    | 4, _ => rw [if_neg (by omega), if_neg (by omega), if_neg (by omega), if_neg (by omega), if_pos rfl]; rfl
    | 5, _ => rw [if_neg (by omega), if_neg (by omega), if_neg (by omega), if_neg (by omega), if_neg (by omega), if_pos rfl]; rfl
  unfold gEnt
  by_cases hf : hn N = 150
  · rw [if_pos hf] at he ⊢
    rw [show e = 149 by omega]
    exact key _ 149
  · rw [if_neg hf] at he ⊢
    rw [show e = hn N by omega]
    exact key _ _
theorem WFh_gEnt {N : Row} (hN : WFh N) {s l : Nat} {b a u : Int32} (hs : s < 20) (hl : l < 6) (hb : b = nI (cl b) ∧ cl b < 1000) : WFh (gEnt N s l b a u) := by
  have hl1 : hn N < 151 := hN.1.2
  refine ⟨⟨?_, ?_⟩, fun e he => ?_⟩
  · show _ = nI (hn (gEnt N s l b a u))
    rw [gEnt_n hN, gEnt_hn hN]
  · show hn (gEnt N s l b a u) < 151
    rw [gEnt_hn hN]
    by_cases hf : hn N = 150
    · rw [if_pos hf]; omega
    · rw [if_neg hf]; omega
  · unfold isV
    by_cases h1 : e + 1 < hn (gEnt N s l b a u)
    · have ho : oldE N e < hn N := (gEnt_old hN (w := 0) (by omega) h1).2
      rw [(gEnt_old hN (w := 1) (by omega) h1).1, (gEnt_old hN (w := 2) (by omega) h1).1, (gEnt_old hN (w := 3) (by omega) h1).1]
      exact hN.2 _ ho
    · have h2 : e + 1 = hn (gEnt N s l b a u) := by omega
      rw [gEnt_new hN (w := 1) (by omega) h2, gEnt_new hN (w := 2) (by omega) h2, gEnt_new hN (w := 3) (by omega) h2]
      show (nI s = nI (cl (nI s)) ∧ cl (nI s) < 20) ∧ (nI l = nI (cl (nI l)) ∧ cl (nI l) < 6) ∧ (b = nI (cl b) ∧ cl b < 1000)
      rw [cl_nI (by omega), cl_nI (by omega)]
      exact ⟨⟨rfl, hs⟩, ⟨rfl, hl⟩, hb⟩
section CH
variable {M : Mem} {g : Nat} {N : Row}
theorem c_indexOf {f e w : Nat} (hf : M.1 g 14 1 = nI f) (hf2 : f < 150) (he : e < 150) (hw : w < 6) : f_X2_indexOf g (nI e) (nI w) M = nI (((f + e) % 150) * 6 + w) := by
  unfold f_X2_indexOf B_X2_indexOf_25 B_X2_indexOf_26
  simp (disch := omega) only [↓ite_b2r, ↓ite_nb2r, ↓lit_m1, ↓lit_m2, lit_0, lit_1, lit_2, lit_3, lit_4, lit_5, lit_6, lit_7, lit_8, lit_9, lit_10, lit_11, lit_12, lit_13, lit_14, lit_15, lit_16, lit_17, lit_18, lit_19, lit_20, lit_21, lit_22, lit_23, lit_24, lit_25, lit_26, lit_27, lit_28, lit_29, lit_30, lit_31, lit_32, lit_33, lit_34, lit_35, lit_36, lit_40, lit_41, lit_42, lit_44, lit_48, lit_57, lit_59, lit_62, lit_63, lit_64, lit_82, lit_98, lit_99, lit_100, lit_101, lit_102, lit_103, lit_104, lit_105, lit_106, lit_107, lit_108, lit_109, lit_110, lit_111, lit_112, lit_113, lit_119, lit_120, lit_127, lit_128, lit_149, lit_150, lit_202, lit_240, lit_262, lit_894, lit_900, lit_999, lit_1000, lit_2000, lit_2662, lit_2663, lit_2695, lit_2701, lit_2702, lit_3602, lit_10806, nI_add, pk_mul, cl_nI, inb_nI, nI_leI, nI_ltI, nI_eq, nI_eq_m1, m1_eq_nI, nI_eq_m2, div_nI, rem_nI, Option.bind_some, b2_0, b2_1, isb_b2, if_true_, if_false_, ↓reduceIte, reduceCtorEq, not_true_eq_false, not_false_eq_true, bt_hasBit, ult, Nat.add_zero, false_and, true_and, and_true, and_false, Nat.reduceLeDiff, Nat.reduceEqDiff, Nat.reduceLT, Bool.toNat_true, Bool.toNat_false, decide_true, decide_false, Bool.not_true, Bool.not_false, Bool.false_and, Bool.true_and, Bool.and_true, Bool.and_false, Bool.or_false, Bool.true_or, Bool.or_true, Bool.false_or, hf, Nat.not_le.mpr he, Nat.not_le.mpr hw, Nat.not_lt_zero]
theorem c_hset {f e w : Nat} (hf : M.1 g 14 1 = nI f) (hf2 : f < 150) (he : e < 150) (hw : w < 6) (v : Int32) : f_X2_setFact g (nI e) (nI w) v M = some (wr M g 15 (((f + e) % 150) * 6 + w) v) := by
  have h9 : ((f + e) % 150) * 6 + w < 900 := by omega
  unfold f_X2_setFact
  simp (disch := omega) only [↓ite_b2r, ↓ite_nb2r, ↓lit_m1, ↓lit_m2, lit_0, lit_1, lit_2, lit_3, lit_4, lit_5, lit_6, lit_7, lit_8, lit_9, lit_10, lit_11, lit_12, lit_13, lit_14, lit_15, lit_16, lit_17, lit_18, lit_19, lit_20, lit_21, lit_22, lit_23, lit_24, lit_25, lit_26, lit_27, lit_28, lit_29, lit_30, lit_31, lit_32, lit_33, lit_34, lit_35, lit_36, lit_40, lit_41, lit_42, lit_44, lit_48, lit_57, lit_59, lit_62, lit_63, lit_64, lit_82, lit_98, lit_99, lit_100, lit_101, lit_102, lit_103, lit_104, lit_105, lit_106, lit_107, lit_108, lit_109, lit_110, lit_111, lit_112, lit_113, lit_119, lit_120, lit_127, lit_128, lit_149, lit_150, lit_202, lit_240, lit_262, lit_894, lit_900, lit_999, lit_1000, lit_2000, lit_2662, lit_2663, lit_2695, lit_2701, lit_2702, lit_3602, lit_10806, nI_add, pk_mul, cl_nI, inb_nI, nI_leI, nI_ltI, nI_eq, nI_eq_m1, m1_eq_nI, nI_eq_m2, div_nI, rem_nI, Option.bind_some, b2_0, b2_1, isb_b2, if_true_, if_false_, ↓reduceIte, reduceCtorEq, not_true_eq_false, not_false_eq_true, bt_hasBit, ult, Nat.add_zero, false_and, true_and, and_true, and_false, Nat.reduceLeDiff, Nat.reduceEqDiff, Nat.reduceLT, Bool.toNat_true, Bool.toNat_false, decide_true, decide_false, Bool.not_true, Bool.not_false, Bool.false_and, Bool.true_and, Bool.and_true, Bool.and_false, Bool.or_false, Bool.true_or, Bool.or_true, Bool.false_or, c_indexOf hf hf2 he hw, Nat.not_le.mpr h9, Nat.not_lt_zero]
theorem c_hfact {f e w : Nat} (hf : M.1 g 14 1 = nI f) (hf2 : f < 150) (he : e < 150) (hw : w < 6) : f_X2_fact g (nI e) (nI w) M = some (M.1 g 15 (((f + e) % 150) * 6 + w)) := by
  have h9 : ((f + e) % 150) * 6 + w < 900 := by omega
  unfold f_X2_fact
  simp (disch := omega) only [↓ite_b2r, ↓ite_nb2r, ↓lit_m1, ↓lit_m2, lit_0, lit_1, lit_2, lit_3, lit_4, lit_5, lit_6, lit_7, lit_8, lit_9, lit_10, lit_11, lit_12, lit_13, lit_14, lit_15, lit_16, lit_17, lit_18, lit_19, lit_20, lit_21, lit_22, lit_23, lit_24, lit_25, lit_26, lit_27, lit_28, lit_29, lit_30, lit_31, lit_32, lit_33, lit_34, lit_35, lit_36, lit_40, lit_41, lit_42, lit_44, lit_48, lit_57, lit_59, lit_62, lit_63, lit_64, lit_82, lit_98, lit_99, lit_100, lit_101, lit_102, lit_103, lit_104, lit_105, lit_106, lit_107, lit_108, lit_109, lit_110, lit_111, lit_112, lit_113, lit_119, lit_120, lit_127, lit_128, lit_149, lit_150, lit_202, lit_240, lit_262, lit_894, lit_900, lit_999, lit_1000, lit_2000, lit_2662, lit_2663, lit_2695, lit_2701, lit_2702, lit_3602, lit_10806, nI_add, pk_mul, cl_nI, inb_nI, nI_leI, nI_ltI, nI_eq, nI_eq_m1, m1_eq_nI, nI_eq_m2, div_nI, rem_nI, Option.bind_some, b2_0, b2_1, isb_b2, if_true_, if_false_, ↓reduceIte, reduceCtorEq, not_true_eq_false, not_false_eq_true, bt_hasBit, ult, Nat.add_zero, false_and, true_and, and_true, and_false, Nat.reduceLeDiff, Nat.reduceEqDiff, Nat.reduceLT, Bool.toNat_true, Bool.toNat_false, decide_true, decide_false, Bool.not_true, Bool.not_false, Bool.false_and, Bool.true_and, Bool.and_true, Bool.and_false, Bool.or_false, Bool.true_or, Bool.or_true, Bool.false_or, c_indexOf hf hf2 he hw, Nat.not_le.mpr h9, Nat.not_lt_zero]
/-- six facts of one entry -/
def put6 (r : Nat → Int32) (z : Nat) (v : Nat → Int32) : Nat → Int32 := fun k => if z * 6 ≤ k ∧ k < z * 6 + 6 then v (k - z * 6) else r k
theorem upd6 (r : Nat → Int32) (z : Nat) (v : Nat → Int32) : upd (upd (upd (upd (upd (upd r (z * 6 + 0) (v 0)) (z * 6 + 1) (v 1)) (z * 6 + 2) (v 2)) (z * 6 + 3) (v 3)) (z * 6 + 4) (v 4)) (z * 6 + 5) (v 5) = put6 r z v := by
  funext k
  unfold put6
  by_cases h : z * 6 ≤ k ∧ k < z * 6 + 6
  · rw [if_pos h]
    obtain ⟨d, hd, rfl⟩ : ∃ d, d < 6 ∧ k = z * 6 + d := ⟨k - z * 6, by omega, by omega⟩
    rw [show z * 6 + d - z * 6 = d by omega]
    match d, hd with
    | 0, _ => rw [upd_other (by omega), upd_other (by omega), upd_other (by omega), upd_other (by omega), upd_other (by omega), upd_same]
    | 1, _ => rw [upd_other (by omega), upd_other (by omega), upd_other (by omega), upd_other (by omega), upd_same]
    | 2, _ => rw [upd_other (by omega), upd_other (by omega), upd_other (by omega), upd_same]
    | 3, _ => rw [upd_other (by omega), upd_other (by omega), upd_same]
    | 4, _ => rw [upd_other (by omega), upd_same]
    | 5, _ => rw [upd_same]
  · rw [if_neg h, upd_other (by omega), upd_other (by omega), upd_other (by omega), upd_other (by omega), upd_other (by omega), upd_other (by omega)]
theorem wr_wr (M : Mem) (g j k k2 : Nat) (v v2 : Int32) : wr (wr M g j k v) g j k2 v2 = wrs M g j (upd (upd (M.1 g j) k v) k2 v2) := by
  rw [show wr M g j k v = wrs M g j (upd (M.1 g j) k v) from rfl, wr_wrs]
theorem c_add31 {f h : Nat} (hf : M.1 g 14 1 = nI f) (hf2 : f < 150) (hh : M.1 g 14 2 = nI h) (hh2 : h < 150) {k : Nat} (hk : k < 120) (t b a u : Int32) : B_X2_add_31 g t (nI k) b a u M = some (wr (wrs M g 15 (put6 (M.1 g 15) ((f + h) % 150) (fun w => if w = 0 then t else if w = 1 then nI (k / 6) else if w = 2 then nI (k % 6) else if w = 3 then b else if w = 4 then a else u))) g 14 2 (nI (h + 1))) := by
  unfold B_X2_add_31
  have key : ∀ r : Nat → Int32, (wrs M g 15 r).1 g 14 = M.1 g 14 := fun r => wrs_other _ _ _ _ (by omega)
  have st : ∀ (r : Nat → Int32) {w : Nat} (v : Int32), w < 6 → f_X2_setFact g (nI h) (nI w) v (wrs M g 15 r) = some (wrs M g 15 (upd r (((f + h) % 150) * 6 + w) v)) := by
    intro r w v hw
    rw [c_hset (by rw [key]; exact hf) hf2 hh2 hw, wr_wrs]
  have s0 := st (M.1 g 15) (w := 0) t (by decide)
  rw [wrs_self] at s0
  have e1 : nI k / (6 : Int32) = nI (k / 6) := div_nI (by omega) (by decide) (by decide)
  have e2 : ireM (nI k) (6 : Int32) = nI (k % 6) := rem_nI (by omega) (by decide) (by decide)
  rw [hh, show f_X2_setFact g (nI h) 0 t M = _ from s0, Option.bind_some, key, hh, e1, e2]
  rw [show f_X2_setFact g (nI h) 1 (nI (k / 6)) _ = _ from st _ (w := 1) (nI (k / 6)) (by decide), Option.bind_some, key, hh]
  rw [show f_X2_setFact g (nI h) 2 (nI (k % 6)) _ = _ from st _ (w := 2) (nI (k % 6)) (by decide), Option.bind_some, key, hh]
  rw [show f_X2_setFact g (nI h) 3 b _ = _ from st _ (w := 3) b (by decide), Option.bind_some, key, hh]
  rw [show f_X2_setFact g (nI h) 4 a _ = _ from st _ (w := 4) a (by decide), Option.bind_some, key, hh]
  rw [show f_X2_setFact g (nI h) 5 u _ = _ from st _ (w := 5) u (by decide), Option.bind_some, key, hh]
  rw [show nI h + (1 : Int32) = nI (h + 1) from nI_1 h, ← upd6]
  rfl
end CH
