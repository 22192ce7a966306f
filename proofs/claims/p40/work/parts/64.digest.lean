/-! ===== the digest ===== -/
def hRun (f : Nat → Int32) (h : Int64) : Nat → Int64
  | 0 => h
  | n + 1 => f_X8_hashed (hRun f h n) (f n)
theorem hRun_s (f : Nat → Int32) (h : Int64) (n : Nat) : hRun f h (n + 1) = f_X8_hashed (hRun f h n) (f n) := rfl
theorem hRun_c {f f' : Nat → Int32} {h : Int64} : ∀ {n : Nat}, (∀ k, k < n → f k = f' k) → hRun f h n = hRun f' h n
  | 0, _ => rfl
  | n + 1, e => by rw [hRun, hRun, hRun_c (fun k hk => e k (by omega)), e n (by omega)]
theorem hRun_add {f : Nat → Int32} {h : Int64} {m : Nat} : ∀ {n : Nat}, hRun f h (m + n) = hRun (fun k => f (m + k)) (hRun f h m) n
  | 0 => rfl
  | n + 1 => by rw [show m + (n + 1) = (m + n) + 1 by omega, hRun, hRun, hRun_add]
def secH (N : Row) (s : Nat) (h : Int64) : Int64 := hRun (fun l => N (82 + 6 * s + l)) (hRun (fun j => chAt N s (nI j) 20) (f_X8_hashed (f_X8_hashed (f_X8_hashed (f_X8_hashed h (nI s)) (N (22 + s))) (N (62 + s))) (nI (chMany N s))) (chMany N s)) 6
def secsH (N : Row) (h : Int64) : Nat → Int64
  | 0 => h
  | s + 1 => if us N s = true then secH N s (secsH N h s) else secsH N h s
def cpyH (N : Row) (c : Nat) (h : Int64) : Nat → Int64
  | 0 => h
  | s + 1 => if cop N c s = true then hRun (fun j => N (262 + 240 * c + 12 * s + j)) (cpyH N c h s) 12 else cpyH N c h s
def chkH (N : Row) (c : Nat) (h : Int64) : Int64 := cpyH N c (hRun (fun w => N (202 + 6 * c + 1 + w)) (f_X8_hashed h (nI c)) 5) 20
def chksH (N : Row) (h : Int64) : Nat → Int64
  | 0 => h
  | c + 1 => if ck N c = true then chkH N c (chksH N h c) else chksH N h c
def digH (N : Row) : Int64 := hRun (fun j => N (2701 + j)) (hRun (fun j => N (2695 + j)) (hRun (fun j => N (2662 + j)) (chksH N (secsH N (f_X8_hashed 2857 (N 0)) 20) 10) (1 + 4 * wq N)) 6) (1 + 6 * hn N)
section DG
variable {M : Mem} {g : Nat} {N : Row}
theorem c_hashSection (hN : WFt N) (h : RD (M.1 g) N) {s : Nat} (hs : s < 20) (hu : us N s = true) (x : Int64) : f_X7_hashSection g x (nI s) M = some (secH N s x) := by
  have hle := chMany_le N s
  unfold f_X7_hashSection f_X7_versionOf secH
  rw [c_childrenOf hN h hs hu, Option.bind_some, c_parentOf h.1 hN hs hu, Option.bind_some, c_hasN h.1 hN hs, hu]
  simp (disch := omega) only [↓ite_b2r, ↓ite_nb2r, ↓lit_m1, ↓lit_m2, lit_0, lit_1, lit_2, lit_3, lit_4, lit_5, lit_6, lit_7, lit_8, lit_9, lit_10, lit_11, lit_12, lit_13, lit_14, lit_15, lit_16, lit_17, lit_18, lit_19, lit_20, lit_21, lit_22, lit_23, lit_24, lit_25, lit_26, lit_27, lit_28, lit_29, lit_30, lit_31, lit_32, lit_33, lit_34, lit_35, lit_36, lit_40, lit_41, lit_42, lit_44, lit_48, lit_57, lit_59, lit_62, lit_63, lit_64, lit_82, lit_98, lit_99, lit_100, lit_101, lit_102, lit_103, lit_104, lit_105, lit_106, lit_107, lit_108, lit_109, lit_110, lit_111, lit_112, lit_113, lit_119, lit_120, lit_127, lit_128, lit_149, lit_150, lit_202, lit_240, lit_262, lit_894, lit_900, lit_999, lit_1000, lit_2000, lit_2662, lit_2663, lit_2695, lit_2701, lit_2702, lit_3602, lit_10806, nI_add, pk_mul, cl_nI, inb_nI, nI_leI, nI_ltI, nI_eq, nI_eq_m1, m1_eq_nI, nI_eq_m2, div_nI, rem_nI, Option.bind_some, b2_0, b2_1, isb_b2, if_true_, if_false_, ↓reduceIte, reduceCtorEq, not_true_eq_false, not_false_eq_true, bt_hasBit, ult, Nat.add_zero, false_and, true_and, and_true, and_false, Nat.reduceLeDiff, Nat.reduceEqDiff, Nat.reduceLT, Bool.toNat_true, Bool.toNat_false, decide_true, decide_false, Bool.not_true, Bool.not_false, Bool.false_and, Bool.true_and, Bool.and_true, Bool.and_false, Bool.or_false, Bool.true_or, Bool.or_true, Bool.false_or, h.1.2.2.1 s hs hu]
  refine loopI (fun n (σ : Int64 × Int32) => L_X7_hashSection_50 g (nI s) (nI (chMany N s)) M n σ.1 σ.2) (fun j σ => σ = (hRun (fun j => chAt N s (nI j) 20) (f_X8_hashed (f_X8_hashed (f_X8_hashed (f_X8_hashed x (nI s)) (N (22 + s))) (N (62 + s))) (nI (chMany N s))) j, nI j)) (fun o => o = some (hRun (fun l => N (82 + 6 * s + l)) (hRun (fun j => chAt N s (nI j) 20) (f_X8_hashed (f_X8_hashed (f_X8_hashed (f_X8_hashed x (nI s)) (N (22 + s))) (N (62 + s))) (nI (chMany N s))) (chMany N s)) 6)) (chMany N s) (fun n j σ hj hσ => ?_) (fun n σ hσ => ?_) FU (FU_lt (by omega)) (_, nI 0) rfl
  · subst hσ
    refine Or.inr ⟨(_, nI (j + 1)), ?_, rfl⟩
    show L_X7_hashSection_50 g (nI s) (nI (chMany N s)) M (n + 1) _ _ = L_X7_hashSection_50 g (nI s) (nI (chMany N s)) M n _ _
    rw [L_X7_hashSection_50, hRun_s]
    simp (disch := omega) only [↓ite_b2r, ↓ite_nb2r, ↓lit_m1, ↓lit_m2, lit_0, lit_1, lit_2, lit_3, lit_4, lit_5, lit_6, lit_7, lit_8, lit_9, lit_10, lit_11, lit_12, lit_13, lit_14, lit_15, lit_16, lit_17, lit_18, lit_19, lit_20, lit_21, lit_22, lit_23, lit_24, lit_25, lit_26, lit_27, lit_28, lit_29, lit_30, lit_31, lit_32, lit_33, lit_34, lit_35, lit_36, lit_40, lit_41, lit_42, lit_44, lit_48, lit_57, lit_59, lit_62, lit_63, lit_64, lit_82, lit_98, lit_99, lit_100, lit_101, lit_102, lit_103, lit_104, lit_105, lit_106, lit_107, lit_108, lit_109, lit_110, lit_111, lit_112, lit_113, lit_119, lit_120, lit_127, lit_128, lit_149, lit_150, lit_202, lit_240, lit_262, lit_894, lit_900, lit_999, lit_1000, lit_2000, lit_2662, lit_2663, lit_2695, lit_2701, lit_2702, lit_3602, lit_10806, nI_add, pk_mul, cl_nI, inb_nI, nI_leI, nI_ltI, nI_eq, nI_eq_m1, m1_eq_nI, nI_eq_m2, div_nI, rem_nI, Option.bind_some, b2_0, b2_1, isb_b2, if_true_, if_false_, ↓reduceIte, reduceCtorEq, not_true_eq_false, not_false_eq_true, bt_hasBit, ult, Nat.add_zero, false_and, true_and, and_true, and_false, Nat.reduceLeDiff, Nat.reduceEqDiff, Nat.reduceLT, Bool.toNat_true, Bool.toNat_false, decide_true, decide_false, Bool.not_true, Bool.not_false, Bool.false_and, Bool.true_and, Bool.and_true, Bool.and_false, Bool.or_false, Bool.true_or, Bool.or_true, Bool.false_or, Nat.not_le.mpr hj, c_childAt hN h hs hu]
  · subst hσ
    show L_X7_hashSection_50 g (nI s) (nI (chMany N s)) M (n + 1) _ _ = _
    rw [L_X7_hashSection_50]
    simp (disch := omega) only [↓ite_b2r, ↓ite_nb2r, ↓lit_m1, ↓lit_m2, lit_0, lit_1, lit_2, lit_3, lit_4, lit_5, lit_6, lit_7, lit_8, lit_9, lit_10, lit_11, lit_12, lit_13, lit_14, lit_15, lit_16, lit_17, lit_18, lit_19, lit_20, lit_21, lit_22, lit_23, lit_24, lit_25, lit_26, lit_27, lit_28, lit_29, lit_30, lit_31, lit_32, lit_33, lit_34, lit_35, lit_36, lit_40, lit_41, lit_42, lit_44, lit_48, lit_57, lit_59, lit_62, lit_63, lit_64, lit_82, lit_98, lit_99, lit_100, lit_101, lit_102, lit_103, lit_104, lit_105, lit_106, lit_107, lit_108, lit_109, lit_110, lit_111, lit_112, lit_113, lit_119, lit_120, lit_127, lit_128, lit_149, lit_150, lit_202, lit_240, lit_262, lit_894, lit_900, lit_999, lit_1000, lit_2000, lit_2662, lit_2663, lit_2695, lit_2701, lit_2702, lit_3602, lit_10806, nI_add, pk_mul, cl_nI, inb_nI, nI_leI, nI_ltI, nI_eq, nI_eq_m1, m1_eq_nI, nI_eq_m2, div_nI, rem_nI, Option.bind_some, b2_0, b2_1, isb_b2, if_true_, if_false_, ↓reduceIte, reduceCtorEq, not_true_eq_false, not_false_eq_true, bt_hasBit, ult, Nat.add_zero, false_and, true_and, and_true, and_false, Nat.reduceLeDiff, Nat.reduceEqDiff, Nat.reduceLT, Bool.toNat_true, Bool.toNat_false, decide_true, decide_false, Bool.not_true, Bool.not_false, Bool.false_and, Bool.true_and, Bool.and_true, Bool.and_false, Bool.or_false, Bool.true_or, Bool.or_true, Bool.false_or, Nat.le_refl]
    generalize hRun (fun j => chAt N s (nI j) 20) (f_X8_hashed (f_X8_hashed (f_X8_hashed (f_X8_hashed x (nI s)) (N (22 + s))) (N (62 + s))) (nI (chMany N s))) (chMany N s) = y
    refine loop (fun n (σ : Int64 × Int32) => L_X7_hashSection_80 g (nI s) M n σ.1 σ.2) (fun l => (hRun (fun l => N (82 + 6 * s + l)) y l, nI l)) 6 (fun n l hl => ?_) (fun n => ?_) FU (by decide)
    · show L_X7_hashSection_80 g (nI s) M (n + 1) _ _ = L_X7_hashSection_80 g (nI s) M n _ _
      rw [L_X7_hashSection_80, hRun_s]
      unfold f_X8_cellOf
      simp (disch := omega) only [↓ite_b2r, ↓ite_nb2r, ↓lit_m1, ↓lit_m2, lit_0, lit_1, lit_2, lit_3, lit_4, lit_5, lit_6, lit_7, lit_8, lit_9, lit_10, lit_11, lit_12, lit_13, lit_14, lit_15, lit_16, lit_17, lit_18, lit_19, lit_20, lit_21, lit_22, lit_23, lit_24, lit_25, lit_26, lit_27, lit_28, lit_29, lit_30, lit_31, lit_32, lit_33, lit_34, lit_35, lit_36, lit_40, lit_41, lit_42, lit_44, lit_48, lit_57, lit_59, lit_62, lit_63, lit_64, lit_82, lit_98, lit_99, lit_100, lit_101, lit_102, lit_103, lit_104, lit_105, lit_106, lit_107, lit_108, lit_109, lit_110, lit_111, lit_112, lit_113, lit_119, lit_120, lit_127, lit_128, lit_149, lit_150, lit_202, lit_240, lit_262, lit_894, lit_900, lit_999, lit_1000, lit_2000, lit_2662, lit_2663, lit_2695, lit_2701, lit_2702, lit_3602, lit_10806, nI_add, pk_mul, cl_nI, inb_nI, nI_leI, nI_ltI, nI_eq, nI_eq_m1, m1_eq_nI, nI_eq_m2, div_nI, rem_nI, Option.bind_some, b2_0, b2_1, isb_b2, if_true_, if_false_, ↓reduceIte, reduceCtorEq, not_true_eq_false, not_false_eq_true, bt_hasBit, ult, Nat.add_zero, false_and, true_and, and_true, and_false, Nat.reduceLeDiff, Nat.reduceEqDiff, Nat.reduceLT, Bool.toNat_true, Bool.toNat_false, decide_true, decide_false, Bool.not_true, Bool.not_false, Bool.false_and, Bool.true_and, Bool.and_true, Bool.and_false, Bool.or_false, Bool.true_or, Bool.or_true, Bool.false_or, Nat.not_le.mpr hl, Nat.mul_comm s 6, c_valueAt, h.1.2.2.2.1 s l hs hl hu]
    · show L_X7_hashSection_80 g (nI s) M (n + 1) _ _ = _
      rw [L_X7_hashSection_80]
      simp (disch := omega) only [↓ite_b2r, ↓ite_nb2r, ↓lit_m1, ↓lit_m2, lit_0, lit_1, lit_2, lit_3, lit_4, lit_5, lit_6, lit_7, lit_8, lit_9, lit_10, lit_11, lit_12, lit_13, lit_14, lit_15, lit_16, lit_17, lit_18, lit_19, lit_20, lit_21, lit_22, lit_23, lit_24, lit_25, lit_26, lit_27, lit_28, lit_29, lit_30, lit_31, lit_32, lit_33, lit_34, lit_35, lit_36, lit_40, lit_41, lit_42, lit_44, lit_48, lit_57, lit_59, lit_62, lit_63, lit_64, lit_82, lit_98, lit_99, lit_100, lit_101, lit_102, lit_103, lit_104, lit_105, lit_106, lit_107, lit_108, lit_109, lit_110, lit_111, lit_112, lit_113, lit_119, lit_120, lit_127, lit_128, lit_149, lit_150, lit_202, lit_240, lit_262, lit_894, lit_900, lit_999, lit_1000, lit_2000, lit_2662, lit_2663, lit_2695, lit_2701, lit_2702, lit_3602, lit_10806, nI_add, pk_mul, cl_nI, inb_nI, nI_leI, nI_ltI, nI_eq, nI_eq_m1, m1_eq_nI, nI_eq_m2, div_nI, rem_nI, Option.bind_some, b2_0, b2_1, isb_b2, if_true_, if_false_, ↓reduceIte, reduceCtorEq, not_true_eq_false, not_false_eq_true, bt_hasBit, ult, Nat.add_zero, false_and, true_and, and_true, and_false, Nat.reduceLeDiff, Nat.reduceEqDiff, Nat.reduceLT, Bool.toNat_true, Bool.toNat_false, decide_true, decide_false, Bool.not_true, Bool.not_false, Bool.false_and, Bool.true_and, Bool.and_true, Bool.and_false, Bool.or_false, Bool.true_or, Bool.or_true, Bool.false_or, Nat.le_refl]
theorem c_hashSections (hN : WFt N) (h : RD (M.1 g) N) (x : Int64) : f_X7_hashOnto g x M = some (secsH N x 20) := by
  unfold f_X7_hashOnto
  refine loop (fun n (σ : Int64 × Int32) => L_X7_hashOnto_5 g M n σ.1 σ.2) (fun s => (secsH N x s, nI s)) 20 (fun n s hs => ?_) (fun n => ?_) FU (by decide)
  · show L_X7_hashOnto_5 g M (n + 1) _ _ = L_X7_hashOnto_5 g M n _ _
    rw [L_X7_hashOnto_5, secsH]
    unfold B_X7_hashOnto_29
    cases hu : us N s with
    | false => simp (disch := omega) only [↓ite_b2r, ↓ite_nb2r, ↓lit_m1, ↓lit_m2, lit_0, lit_1, lit_2, lit_3, lit_4, lit_5, lit_6, lit_7, lit_8, lit_9, lit_10, lit_11, lit_12, lit_13, lit_14, lit_15, lit_16, lit_17, lit_18, lit_19, lit_20, lit_21, lit_22, lit_23, lit_24, lit_25, lit_26, lit_27, lit_28, lit_29, lit_30, lit_31, lit_32, lit_33, lit_34, lit_35, lit_36, lit_40, lit_41, lit_42, lit_44, lit_48, lit_57, lit_59, lit_62, lit_63, lit_64, lit_82, lit_98, lit_99, lit_100, lit_101, lit_102, lit_103, lit_104, lit_105, lit_106, lit_107, lit_108, lit_109, lit_110, lit_111, lit_112, lit_113, lit_119, lit_120, lit_127, lit_128, lit_149, lit_150, lit_202, lit_240, lit_262, lit_894, lit_900, lit_999, lit_1000, lit_2000, lit_2662, lit_2663, lit_2695, lit_2701, lit_2702, lit_3602, lit_10806, nI_add, pk_mul, cl_nI, inb_nI, nI_leI, nI_ltI, nI_eq, nI_eq_m1, m1_eq_nI, nI_eq_m2, div_nI, rem_nI, Option.bind_some, b2_0, b2_1, isb_b2, if_true_, if_false_, ↓reduceIte, reduceCtorEq, not_true_eq_false, not_false_eq_true, bt_hasBit, ult, Nat.add_zero, false_and, true_and, and_true, and_false, Nat.reduceLeDiff, Nat.reduceEqDiff, Nat.reduceLT, Bool.toNat_true, Bool.toNat_false, decide_true, decide_false, Bool.not_true, Bool.not_false, Bool.false_and, Bool.true_and, Bool.and_true, Bool.and_false, Bool.or_false, Bool.true_or, Bool.or_true, Bool.false_or, Nat.not_le.mpr hs, c_hasN h.1 hN hs, hu] <;> rfl
    | true => simp (disch := omega) only [↓ite_b2r, ↓ite_nb2r, ↓lit_m1, ↓lit_m2, lit_0, lit_1, lit_2, lit_3, lit_4, lit_5, lit_6, lit_7, lit_8, lit_9, lit_10, lit_11, lit_12, lit_13, lit_14, lit_15, lit_16, lit_17, lit_18, lit_19, lit_20, lit_21, lit_22, lit_23, lit_24, lit_25, lit_26, lit_27, lit_28, lit_29, lit_30, lit_31, lit_32, lit_33, lit_34, lit_35, lit_36, lit_40, lit_41, lit_42, lit_44, lit_48, lit_57, lit_59, lit_62, lit_63, lit_64, lit_82, lit_98, lit_99, lit_100, lit_101, lit_102, lit_103, lit_104, lit_105, lit_106, lit_107, lit_108, lit_109, lit_110, lit_111, lit_112, lit_113, lit_119, lit_120, lit_127, lit_128, lit_149, lit_150, lit_202, lit_240, lit_262, lit_894, lit_900, lit_999, lit_1000, lit_2000, lit_2662, lit_2663, lit_2695, lit_2701, lit_2702, lit_3602, lit_10806, nI_add, pk_mul, cl_nI, inb_nI, nI_leI, nI_ltI, nI_eq, nI_eq_m1, m1_eq_nI, nI_eq_m2, div_nI, rem_nI, Option.bind_some, b2_0, b2_1, isb_b2, if_true_, if_false_, ↓reduceIte, reduceCtorEq, not_true_eq_false, not_false_eq_true, bt_hasBit, ult, Nat.add_zero, false_and, true_and, and_true, and_false, Nat.reduceLeDiff, Nat.reduceEqDiff, Nat.reduceLT, Bool.toNat_true, Bool.toNat_false, decide_true, decide_false, Bool.not_true, Bool.not_false, Bool.false_and, Bool.true_and, Bool.and_true, Bool.and_false, Bool.or_false, Bool.true_or, Bool.or_true, Bool.false_or, Nat.not_le.mpr hs, c_hasN h.1 hN hs, hu, c_hashSection hN h hs hu]
  · show L_X7_hashOnto_5 g M (n + 1) _ _ = _
    rw [L_X7_hashOnto_5]
    simp (disch := omega) only [↓ite_b2r, ↓ite_nb2r, ↓lit_m1, ↓lit_m2, lit_0, lit_1, lit_2, lit_3, lit_4, lit_5, lit_6, lit_7, lit_8, lit_9, lit_10, lit_11, lit_12, lit_13, lit_14, lit_15, lit_16, lit_17, lit_18, lit_19, lit_20, lit_21, lit_22, lit_23, lit_24, lit_25, lit_26, lit_27, lit_28, lit_29, lit_30, lit_31, lit_32, lit_33, lit_34, lit_35, lit_36, lit_40, lit_41, lit_42, lit_44, lit_48, lit_57, lit_59, lit_62, lit_63, lit_64, lit_82, lit_98, lit_99, lit_100, lit_101, lit_102, lit_103, lit_104, lit_105, lit_106, lit_107, lit_108, lit_109, lit_110, lit_111, lit_112, lit_113, lit_119, lit_120, lit_127, lit_128, lit_149, lit_150, lit_202, lit_240, lit_262, lit_894, lit_900, lit_999, lit_1000, lit_2000, lit_2662, lit_2663, lit_2695, lit_2701, lit_2702, lit_3602, lit_10806, nI_add, pk_mul, cl_nI, inb_nI, nI_leI, nI_ltI, nI_eq, nI_eq_m1, m1_eq_nI, nI_eq_m2, div_nI, rem_nI, Option.bind_some, b2_0, b2_1, isb_b2, if_true_, if_false_, ↓reduceIte, reduceCtorEq, not_true_eq_false, not_false_eq_true, bt_hasBit, ult, Nat.add_zero, false_and, true_and, and_true, and_false, Nat.reduceLeDiff, Nat.reduceEqDiff, Nat.reduceLT, Bool.toNat_true, Bool.toNat_false, decide_true, decide_false, Bool.not_true, Bool.not_false, Bool.false_and, Bool.true_and, Bool.and_true, Bool.and_false, Bool.or_false, Bool.true_or, Bool.or_true, Bool.false_or, Nat.le_refl]
def cpK (N : Row) (c : Nat) (h : Int64) (k : Nat) : Int64 := if cop N c (k / 6) = true then hRun (fun j => N (262 + 240 * c + 12 * (k / 6) + j)) (cpyH N c h (k / 6)) (2 * (k % 6)) else cpyH N c h (k / 6)
theorem cpK_s {c k : Nat} {h : Int64} : cpK N c h (k + 1) = if cop N c (k / 6) = true then f_X8_hashed (f_X8_hashed (cpK N c h k) (N (262 + 240 * c + 12 * (k / 6) + 2 * (k % 6)))) (N (262 + 240 * c + 12 * (k / 6) + 2 * (k % 6) + 1)) else cpK N c h k := by
  by_cases h5 : k % 6 = 5
  · have e1 : (k + 1) / 6 = k / 6 + 1 := by omega
    have e2 : (k + 1) % 6 = 0 := by omega
    have e3 : cpK N c h (k + 1) = cpyH N c h (k / 6 + 1) := by
      unfold cpK
      rw [e1, e2]
      by_cases hc : cop N c (k / 6 + 1) = true
      · rw [if_pos hc]; rfl
      · rw [if_neg hc]
    rw [e3, cpyH]
    unfold cpK
    rw [h5]
    by_cases hc : cop N c (k / 6) = true
    · rw [if_pos hc, if_pos hc, if_pos hc]
      rfl
    · rw [if_neg hc, if_neg hc, if_neg hc]
  · have e1 : (k + 1) / 6 = k / 6 := by omega
    have e2 : (k + 1) % 6 = k % 6 + 1 := by omega
    unfold cpK
    rw [e1, e2]
    by_cases hc : cop N c (k / 6) = true
    · rw [if_pos hc, if_pos hc, if_pos hc, show 2 * (k % 6 + 1) = 2 * (k % 6) + 1 + 1 by omega, hRun_s, hRun_s, Nat.add_assoc (262 + 240 * c + 12 * (k / 6))]
    · rw [if_neg hc, if_neg hc, if_neg hc]
theorem c_hashCopy (hN : WFa N) (h : RD (M.1 g) N) {c : Nat} (hc : c < 10) (hk : ck N c = true) (x : Int64) : f_X0_hashCopy g x (nI c) (M.1 g 6 (sec N c)) M = some (cpyH N c x 20) := by
  have e20 : cpyH N c x 20 = cpK N c x 120 := by
    unfold cpK
    by_cases hc : cop N c (120 / 6) = true
    · rw [if_pos hc]; rfl
    · rw [if_neg hc]
  have hsl := sec_lt hN.1.2.1 hc hk
  have hsu := sec_us hN.1.2.1 hc hk
  unfold f_X0_hashCopy
  rw [e20]
  refine loop0 (fun n (σ : Int64 × Int32) => L_X0_hashCopy_6 g (nI c) (M.1 g 6 (sec N c)) M n σ.1 σ.2) (fun k => (cpK N c x k, nI k)) 120 (x, nI 0) ?_ (fun n k hk2 => ?_) (fun n => ?_) FU (by decide)
  · refine Prod.ext ?_ rfl
    show cpK N c x 0 = x
    unfold cpK
    by_cases hc : cop N c (0 / 6) = true
    · rw [if_pos hc]; rfl
    · rw [if_neg hc]; rfl
  · show L_X0_hashCopy_6 g (nI c) (M.1 g 6 (sec N c)) M (n + 1) _ _ = L_X0_hashCopy_6 g (nI c) (M.1 g 6 (sec N c)) M n _ _
    have hb := h.1.2.2.2.2.1 (sec N c) hsl (k / 6) (by omega)
    have hcop : bt (M.1 g 6 (sec N c)) (k / 6) = cop N c (k / 6) := by
      rw [hb, decide_eq_true (show k / 6 < 20 by omega), hsu]
      unfold cop
      simp
    rw [L_X0_hashCopy_6, cpK_s]
    unfold B_X0_hashCopy_54
    cases hcc : cop N c (k / 6) with
    | false =>
      rw [hcc] at hcop
      simp (disch := omega) only [↓ite_b2r, ↓ite_nb2r, ↓lit_m1, ↓lit_m2, lit_0, lit_1, lit_2, lit_3, lit_4, lit_5, lit_6, lit_7, lit_8, lit_9, lit_10, lit_11, lit_12, lit_13, lit_14, lit_15, lit_16, lit_17, lit_18, lit_19, lit_20, lit_21, lit_22, lit_23, lit_24, lit_25, lit_26, lit_27, lit_28, lit_29, lit_30, lit_31, lit_32, lit_33, lit_34, lit_35, lit_36, lit_40, lit_41, lit_42, lit_44, lit_48, lit_57, lit_59, lit_62, lit_63, lit_64, lit_82, lit_98, lit_99, lit_100, lit_101, lit_102, lit_103, lit_104, lit_105, lit_106, lit_107, lit_108, lit_109, lit_110, lit_111, lit_112, lit_113, lit_119, lit_120, lit_127, lit_128, lit_149, lit_150, lit_202, lit_240, lit_262, lit_894, lit_900, lit_999, lit_1000, lit_2000, lit_2662, lit_2663, lit_2695, lit_2701, lit_2702, lit_3602, lit_10806, nI_add, pk_mul, cl_nI, inb_nI, nI_leI, nI_ltI, nI_eq, nI_eq_m1, m1_eq_nI, nI_eq_m2, div_nI, rem_nI, Option.bind_some, b2_0, b2_1, isb_b2, if_true_, if_false_, ↓reduceIte, reduceCtorEq, not_true_eq_false, not_false_eq_true, bt_hasBit, ult, Nat.add_zero, false_and, true_and, and_true, and_false, Nat.reduceLeDiff, Nat.reduceEqDiff, Nat.reduceLT, Bool.toNat_true, Bool.toNat_false, decide_true, decide_false, Bool.not_true, Bool.not_false, Bool.false_and, Bool.true_and, Bool.and_true, Bool.and_false, Bool.or_false, Bool.true_or, Bool.or_true, Bool.false_or, Nat.not_le.mpr hk2, hcop] <;> rfl
    | true =>
      rw [hcc] at hcop
      obtain ⟨u1, u2⟩ : us N (k / 6) = true ∧ An N (k / 6) (sec N c) = true := by
        unfold cop at hcc
        simp at hcc
        exact ⟨by simp [hcc], by simp [hcc]⟩
      obtain ⟨v1, v2⟩ := h.2.2.2.1 c (k / 6) (k % 6) hc (by omega) (by omega) hk u1 u2
      rw [show 6 * (k / 6) + k % 6 = k by omega] at v1 v2
      simp (disch := omega) only [↓ite_b2r, ↓ite_nb2r, ↓lit_m1, ↓lit_m2, lit_0, lit_1, lit_2, lit_3, lit_4, lit_5, lit_6, lit_7, lit_8, lit_9, lit_10, lit_11, lit_12, lit_13, lit_14, lit_15, lit_16, lit_17, lit_18, lit_19, lit_20, lit_21, lit_22, lit_23, lit_24, lit_25, lit_26, lit_27, lit_28, lit_29, lit_30, lit_31, lit_32, lit_33, lit_34, lit_35, lit_36, lit_40, lit_41, lit_42, lit_44, lit_48, lit_57, lit_59, lit_62, lit_63, lit_64, lit_82, lit_98, lit_99, lit_100, lit_101, lit_102, lit_103, lit_104, lit_105, lit_106, lit_107, lit_108, lit_109, lit_110, lit_111, lit_112, lit_113, lit_119, lit_120, lit_127, lit_128, lit_149, lit_150, lit_202, lit_240, lit_262, lit_894, lit_900, lit_999, lit_1000, lit_2000, lit_2662, lit_2663, lit_2695, lit_2701, lit_2702, lit_3602, lit_10806, nI_add, pk_mul, cl_nI, inb_nI, nI_leI, nI_ltI, nI_eq, nI_eq_m1, m1_eq_nI, nI_eq_m2, div_nI, rem_nI, Option.bind_some, b2_0, b2_1, isb_b2, if_true_, if_false_, ↓reduceIte, reduceCtorEq, not_true_eq_false, not_false_eq_true, bt_hasBit, ult, Nat.add_zero, false_and, true_and, and_true, and_false, Nat.reduceLeDiff, Nat.reduceEqDiff, Nat.reduceLT, Bool.toNat_true, Bool.toNat_false, decide_true, decide_false, Bool.not_true, Bool.not_false, Bool.false_and, Bool.true_and, Bool.and_true, Bool.and_false, Bool.or_false, Bool.true_or, Bool.or_true, Bool.false_or, Nat.not_le.mpr hk2, hcop, c_baseAt hc hk2, c_ownAt hc hk2, v1, v2]
  · show L_X0_hashCopy_6 g (nI c) (M.1 g 6 (sec N c)) M (n + 1) _ _ = _
    rw [L_X0_hashCopy_6]
    simp (disch := omega) only [↓ite_b2r, ↓ite_nb2r, ↓lit_m1, ↓lit_m2, lit_0, lit_1, lit_2, lit_3, lit_4, lit_5, lit_6, lit_7, lit_8, lit_9, lit_10, lit_11, lit_12, lit_13, lit_14, lit_15, lit_16, lit_17, lit_18, lit_19, lit_20, lit_21, lit_22, lit_23, lit_24, lit_25, lit_26, lit_27, lit_28, lit_29, lit_30, lit_31, lit_32, lit_33, lit_34, lit_35, lit_36, lit_40, lit_41, lit_42, lit_44, lit_48, lit_57, lit_59, lit_62, lit_63, lit_64, lit_82, lit_98, lit_99, lit_100, lit_101, lit_102, lit_103, lit_104, lit_105, lit_106, lit_107, lit_108, lit_109, lit_110, lit_111, lit_112, lit_113, lit_119, lit_120, lit_127, lit_128, lit_149, lit_150, lit_202, lit_240, lit_262, lit_894, lit_900, lit_999, lit_1000, lit_2000, lit_2662, lit_2663, lit_2695, lit_2701, lit_2702, lit_3602, lit_10806, nI_add, pk_mul, cl_nI, inb_nI, nI_leI, nI_ltI, nI_eq, nI_eq_m1, m1_eq_nI, nI_eq_m2, div_nI, rem_nI, Option.bind_some, b2_0, b2_1, isb_b2, if_true_, if_false_, ↓reduceIte, reduceCtorEq, not_true_eq_false, not_false_eq_true, bt_hasBit, ult, Nat.add_zero, false_and, true_and, and_true, and_false, Nat.reduceLeDiff, Nat.reduceEqDiff, Nat.reduceLT, Bool.toNat_true, Bool.toNat_false, decide_true, decide_false, Bool.not_true, Bool.not_false, Bool.false_and, Bool.true_and, Bool.and_true, Bool.and_false, Bool.or_false, Bool.true_or, Bool.or_true, Bool.false_or, Nat.le_refl]
theorem c_hashChecks (hN : WFa N) (h : RD (M.1 g) N) (x : Int64) : f_X0_hashOnto g x M = some (chksH N x 10) := by
  unfold f_X0_hashOnto
  refine loop (fun n (σ : Int64 × Int32) => L_X0_hashOnto_6 g M n σ.1 σ.2) (fun c => (chksH N x c, nI c)) 10 (fun n c hc => ?_) (fun n => ?_) FU (by decide)
  · show L_X0_hashOnto_6 g M (n + 1) _ _ = L_X0_hashOnto_6 g M n _ _
    rw [L_X0_hashOnto_6, chksH]
    cases hk : ck N c with
    | false =>
      unfold B_X0_hashOnto_82
      simp (disch := omega) only [↓ite_b2r, ↓ite_nb2r, ↓lit_m1, ↓lit_m2, lit_0, lit_1, lit_2, lit_3, lit_4, lit_5, lit_6, lit_7, lit_8, lit_9, lit_10, lit_11, lit_12, lit_13, lit_14, lit_15, lit_16, lit_17, lit_18, lit_19, lit_20, lit_21, lit_22, lit_23, lit_24, lit_25, lit_26, lit_27, lit_28, lit_29, lit_30, lit_31, lit_32, lit_33, lit_34, lit_35, lit_36, lit_40, lit_41, lit_42, lit_44, lit_48, lit_57, lit_59, lit_62, lit_63, lit_64, lit_82, lit_98, lit_99, lit_100, lit_101, lit_102, lit_103, lit_104, lit_105, lit_106, lit_107, lit_108, lit_109, lit_110, lit_111, lit_112, lit_113, lit_119, lit_120, lit_127, lit_128, lit_149, lit_150, lit_202, lit_240, lit_262, lit_894, lit_900, lit_999, lit_1000, lit_2000, lit_2662, lit_2663, lit_2695, lit_2701, lit_2702, lit_3602, lit_10806, nI_add, pk_mul, cl_nI, inb_nI, nI_leI, nI_ltI, nI_eq, nI_eq_m1, m1_eq_nI, nI_eq_m2, div_nI, rem_nI, Option.bind_some, b2_0, b2_1, isb_b2, if_true_, if_false_, ↓reduceIte, reduceCtorEq, not_true_eq_false, not_false_eq_true, bt_hasBit, ult, Nat.add_zero, false_and, true_and, and_true, and_false, Nat.reduceLeDiff, Nat.reduceEqDiff, Nat.reduceLT, Bool.toNat_true, Bool.toNat_false, decide_true, decide_false, Bool.not_true, Bool.not_false, Bool.false_and, Bool.true_and, Bool.and_true, Bool.and_false, Bool.or_false, Bool.true_or, Bool.or_true, Bool.false_or, Nat.not_le.mpr hc, c_ohas h.2.2.1, isC_nI hc, hk] <;> rfl
    | true =>
      simp (disch := omega) only [↓ite_b2r, ↓ite_nb2r, ↓lit_m1, ↓lit_m2, lit_0, lit_1, lit_2, lit_3, lit_4, lit_5, lit_6, lit_7, lit_8, lit_9, lit_10, lit_11, lit_12, lit_13, lit_14, lit_15, lit_16, lit_17, lit_18, lit_19, lit_20, lit_21, lit_22, lit_23, lit_24, lit_25, lit_26, lit_27, lit_28, lit_29, lit_30, lit_31, lit_32, lit_33, lit_34, lit_35, lit_36, lit_40, lit_41, lit_42, lit_44, lit_48, lit_57, lit_59, lit_62, lit_63, lit_64, lit_82, lit_98, lit_99, lit_100, lit_101, lit_102, lit_103, lit_104, lit_105, lit_106, lit_107, lit_108, lit_109, lit_110, lit_111, lit_112, lit_113, lit_119, lit_120, lit_127, lit_128, lit_149, lit_150, lit_202, lit_240, lit_262, lit_894, lit_900, lit_999, lit_1000, lit_2000, lit_2662, lit_2663, lit_2695, lit_2701, lit_2702, lit_3602, lit_10806, nI_add, pk_mul, cl_nI, inb_nI, nI_leI, nI_ltI, nI_eq, nI_eq_m1, m1_eq_nI, nI_eq_m2, div_nI, rem_nI, Option.bind_some, b2_0, b2_1, isb_b2, if_true_, if_false_, ↓reduceIte, reduceCtorEq, not_true_eq_false, not_false_eq_true, bt_hasBit, ult, Nat.add_zero, false_and, true_and, and_true, and_false, Nat.reduceLeDiff, Nat.reduceEqDiff, Nat.reduceLT, Bool.toNat_true, Bool.toNat_false, decide_true, decide_false, Bool.not_true, Bool.not_false, Bool.false_and, Bool.true_and, Bool.and_true, Bool.and_false, Bool.or_false, Bool.true_or, Bool.or_true, Bool.false_or, Nat.not_le.mpr hc, c_ohas h.2.2.1, isC_nI hc, hk]
      unfold chkH
      generalize f_X8_hashed (chksH N x c) (nI c) = y
      have hfac : ∀ w, w < 5 → f_X0_fact g (nI c) (nI w) M = some (N (202 + 6 * c + 1 + w)) := fun w hw => by
        rw [c_fact h.2.2.1 (nI c) hw, fac_nI h.2.2.1 hc hk hw, show 202 + 6 * c + (w + 1) = 202 + 6 * c + 1 + w by omega]
      refine loopI (fun m (σ : Int64 × Int32) => L_X0_hashOnto_34 g (L_X0_hashOnto_6 g M n) (nI c) M m σ.1 σ.2) (fun w σ => σ = (hRun (fun w => N (202 + 6 * c + 1 + w)) y w, nI w)) (fun o => o = L_X0_hashOnto_6 g M n (cpyH N c (hRun (fun w => N (202 + 6 * c + 1 + w)) y 5) 20) (nI (c + 1))) 5 (fun m w σ hw hσ => ?_) (fun m σ hσ => ?_) FU (by decide) (y, nI 0) rfl
      · subst hσ
        refine Or.inr ⟨(_, nI (w + 1)), ?_, rfl⟩
        show L_X0_hashOnto_34 g _ (nI c) M (m + 1) _ _ = L_X0_hashOnto_34 g _ (nI c) M m _ _
        rw [L_X0_hashOnto_34, hRun_s]
        simp (disch := omega) only [↓ite_b2r, ↓ite_nb2r, ↓lit_m1, ↓lit_m2, lit_0, lit_1, lit_2, lit_3, lit_4, lit_5, lit_6, lit_7, lit_8, lit_9, lit_10, lit_11, lit_12, lit_13, lit_14, lit_15, lit_16, lit_17, lit_18, lit_19, lit_20, lit_21, lit_22, lit_23, lit_24, lit_25, lit_26, lit_27, lit_28, lit_29, lit_30, lit_31, lit_32, lit_33, lit_34, lit_35, lit_36, lit_40, lit_41, lit_42, lit_44, lit_48, lit_57, lit_59, lit_62, lit_63, lit_64, lit_82, lit_98, lit_99, lit_100, lit_101, lit_102, lit_103, lit_104, lit_105, lit_106, lit_107, lit_108, lit_109, lit_110, lit_111, lit_112, lit_113, lit_119, lit_120, lit_127, lit_128, lit_149, lit_150, lit_202, lit_240, lit_262, lit_894, lit_900, lit_999, lit_1000, lit_2000, lit_2662, lit_2663, lit_2695, lit_2701, lit_2702, lit_3602, lit_10806, nI_add, pk_mul, cl_nI, inb_nI, nI_leI, nI_ltI, nI_eq, nI_eq_m1, m1_eq_nI, nI_eq_m2, div_nI, rem_nI, Option.bind_some, b2_0, b2_1, isb_b2, if_true_, if_false_, ↓reduceIte, reduceCtorEq, not_true_eq_false, not_false_eq_true, bt_hasBit, ult, Nat.add_zero, false_and, true_and, and_true, and_false, Nat.reduceLeDiff, Nat.reduceEqDiff, Nat.reduceLT, Bool.toNat_true, Bool.toNat_false, decide_true, decide_false, Bool.not_true, Bool.not_false, Bool.false_and, Bool.true_and, Bool.and_true, Bool.and_false, Bool.or_false, Bool.true_or, Bool.or_true, Bool.false_or, Nat.not_le.mpr hw, hfac w hw]
      · subst hσ
        show L_X0_hashOnto_34 g _ (nI c) M (m + 1) _ _ = _
        have h1 := hfac 1 (by omega)
        have e1 : N (202 + 6 * c + 1 + 1) = nI (sec N c) := sec_eq hN.1.2.1 hc hk
        have hsl := sec_lt hN.1.2.1 hc hk
        rw [L_X0_hashOnto_34]
        unfold B_X0_hashOnto_82
        simp (disch := omega) only [↓ite_b2r, ↓ite_nb2r, ↓lit_m1, ↓lit_m2, lit_0, lit_1, lit_2, lit_3, lit_4, lit_5, lit_6, lit_7, lit_8, lit_9, lit_10, lit_11, lit_12, lit_13, lit_14, lit_15, lit_16, lit_17, lit_18, lit_19, lit_20, lit_21, lit_22, lit_23, lit_24, lit_25, lit_26, lit_27, lit_28, lit_29, lit_30, lit_31, lit_32, lit_33, lit_34, lit_35, lit_36, lit_40, lit_41, lit_42, lit_44, lit_48, lit_57, lit_59, lit_62, lit_63, lit_64, lit_82, lit_98, lit_99, lit_100, lit_101, lit_102, lit_103, lit_104, lit_105, lit_106, lit_107, lit_108, lit_109, lit_110, lit_111, lit_112, lit_113, lit_119, lit_120, lit_127, lit_128, lit_149, lit_150, lit_202, lit_240, lit_262, lit_894, lit_900, lit_999, lit_1000, lit_2000, lit_2662, lit_2663, lit_2695, lit_2701, lit_2702, lit_3602, lit_10806, nI_add, pk_mul, cl_nI, inb_nI, nI_leI, nI_ltI, nI_eq, nI_eq_m1, m1_eq_nI, nI_eq_m2, div_nI, rem_nI, Option.bind_some, b2_0, b2_1, isb_b2, if_true_, if_false_, ↓reduceIte, reduceCtorEq, not_true_eq_false, not_false_eq_true, bt_hasBit, ult, Nat.add_zero, false_and, true_and, and_true, and_false, Nat.reduceLeDiff, Nat.reduceEqDiff, Nat.reduceLT, Bool.toNat_true, Bool.toNat_false, decide_true, decide_false, Bool.not_true, Bool.not_false, Bool.false_and, Bool.true_and, Bool.and_true, Bool.and_false, Bool.or_false, Bool.true_or, Bool.or_true, Bool.false_or, Nat.le_refl, h1, e1, c_subtreeOf, rowAt_nI hsl, c_hashCopy hN h hc hk]
  · show L_X0_hashOnto_6 g M (n + 1) _ _ = _
    rw [L_X0_hashOnto_6]
    simp (disch := omega) only [↓ite_b2r, ↓ite_nb2r, ↓lit_m1, ↓lit_m2, lit_0, lit_1, lit_2, lit_3, lit_4, lit_5, lit_6, lit_7, lit_8, lit_9, lit_10, lit_11, lit_12, lit_13, lit_14, lit_15, lit_16, lit_17, lit_18, lit_19, lit_20, lit_21, lit_22, lit_23, lit_24, lit_25, lit_26, lit_27, lit_28, lit_29, lit_30, lit_31, lit_32, lit_33, lit_34, lit_35, lit_36, lit_40, lit_41, lit_42, lit_44, lit_48, lit_57, lit_59, lit_62, lit_63, lit_64, lit_82, lit_98, lit_99, lit_100, lit_101, lit_102, lit_103, lit_104, lit_105, lit_106, lit_107, lit_108, lit_109, lit_110, lit_111, lit_112, lit_113, lit_119, lit_120, lit_127, lit_128, lit_149, lit_150, lit_202, lit_240, lit_262, lit_894, lit_900, lit_999, lit_1000, lit_2000, lit_2662, lit_2663, lit_2695, lit_2701, lit_2702, lit_3602, lit_10806, nI_add, pk_mul, cl_nI, inb_nI, nI_leI, nI_ltI, nI_eq, nI_eq_m1, m1_eq_nI, nI_eq_m2, div_nI, rem_nI, Option.bind_some, b2_0, b2_1, isb_b2, if_true_, if_false_, ↓reduceIte, reduceCtorEq, not_true_eq_false, not_false_eq_true, bt_hasBit, ult, Nat.add_zero, false_and, true_and, and_true, and_false, Nat.reduceLeDiff, Nat.reduceEqDiff, Nat.reduceLT, Bool.toNat_true, Bool.toNat_false, decide_true, decide_false, Bool.not_true, Bool.not_false, Bool.false_and, Bool.true_and, Bool.and_true, Bool.and_false, Bool.or_false, Bool.true_or, Bool.or_true, Bool.false_or, Nat.le_refl]
end DG
