/-! ===== what a line was; who wrote it last ===== -/
def wasE (N : Row) (T : Int32) (k e : Nat) : Bool := !decide (N (2702 + 6 * e) ≤ T) && decide (6 * cl (N (2702 + 6 * e + 1)) + cl (N (2702 + 6 * e + 2)) = k)
def wasK (N : Row) (T : Int32) (k : Nat) (v : Int32) : Nat → Nat → Int32
  | _, 0 => v
  | e, d + 1 => if wasE N T k e = true then N (2702 + 6 * e + 3) else wasK N T k v (e + 1) d
def mtE (N : Row) (s l e : Nat) : Bool := decide (N (2702 + 6 * e + 1) = nI s) && decide (N (2702 + 6 * e + 2) = nI l)
def latU (N : Row) (s l : Nat) : Nat → Int32
  | 0 => mI
  | e + 1 => if mtE N s l e = true then N (2702 + 6 * e + 5) else latU N s l e
theorem isV_eq {N : Row} {k b m : Nat} (h : isV N k b) (hb : b ≤ 2147483648) (hm : m < 2147483648) : (N k = nI m) = (cl (N k) = m) := by
  obtain ⟨a1, a2⟩ := h
  apply propext
  constructor
  · intro z
    rw [z]
    exact cl_nI hm
  · intro z
    rw [a1, z]
theorem wasE_x {N : Row} (hh : WFh N) {T : Int32} {s l e : Nat} (hs : s < 20) (hl : l < 6) (he : e < hn N) : wasE N T (6 * s + l) e = (!decide (N (2702 + 6 * e) ≤ T) && mtE N s l e) := by
  obtain ⟨h1, h2, -⟩ := hh.2 e he
  unfold wasE mtE
  congr 1
  rw [decide_eq_decide.mpr (show (N (2702 + 6 * e + 1) = nI s) ↔ (cl (N (2702 + 6 * e + 1)) = s) from iff_of_eq (isV_eq h1 (by omega) (by omega))), decide_eq_decide.mpr (show (N (2702 + 6 * e + 2) = nI l) ↔ (cl (N (2702 + 6 * e + 2)) = l) from iff_of_eq (isV_eq h2 (by omega) (by omega))), ← Bool.decide_and]
  have b2' := h2.2
  exact decide_eq_decide.mpr ⟨fun h => by omega, fun h => by omega⟩
section HI
variable {M : Mem} {g : Nat} {N : Row}
theorem c_latestUserOf (hh : WFh N) (h : RDh (M.1 g) N) {s l : Nat} : f_X2_latestUserOf g (nI s) (nI l) M = some (latU N s l (hn N)) := by
  have hl : hn N < 151 := hh.1.2
  obtain ⟨e14, f, hf, hf1, hf2⟩ := h
  have e14 : M.1 g 14 2 = nI (hn N) := e14.trans hh.1.1
  unfold f_X2_latestUserOf
  rw [e14]
  refine loopI (fun n (σ : Int32) => L_X2_latestUserOf_7 g (nI s) (nI l) M n σ) (fun i σ => σ = nI (hn N - i) - 1 ∧ latU N s l (hn N - i) = latU N s l (hn N)) (fun o => o = some (latU N s l (hn N))) (hn N) (fun n i σ hi hσ => ?_) (fun n σ hσ => ?_) FU (FU_lt (by omega)) (nI (hn N) - 1) ⟨rfl, rfl⟩
  · obtain ⟨rfl, hla⟩ := hσ
    obtain ⟨e, he⟩ : ∃ e, hn N - i = e + 1 := ⟨hn N - i - 1, by omega⟩
    rw [he] at hla ⊢
    have hs1 : nI (e + 1) - 1 = nI e := (pk_sub (b := 1) (by omega)).trans (by rw [Nat.add_sub_cancel])
    have h1 : f_X2_fact g (nI e) (nI 1) M = some (N (2702 + 6 * e + 1)) := by rw [c_hfact hf1 hf (by omega) (by omega), hf2 e 1 (by omega) (by omega)]
    have h2 : f_X2_fact g (nI e) (nI 2) M = some (N (2702 + 6 * e + 2)) := by rw [c_hfact hf1 hf (by omega) (by omega), hf2 e 2 (by omega) (by omega)]
    have h5 : f_X2_fact g (nI e) (nI 5) M = some (N (2702 + 6 * e + 5)) := by rw [c_hfact hf1 hf (by omega) (by omega), hf2 e 5 (by omega) (by omega)]
    have hpm : nI e + (-1 : Int32) = nI e - 1 := by rw [Int32.sub_eq_add_neg]
    have hne : hn N - (i + 1) = e := by omega
    show (L_X2_latestUserOf_7 g (nI s) (nI l) M (n + 1) _ = _) ∨ ∃ s', L_X2_latestUserOf_7 g (nI s) (nI l) M (n + 1) _ = L_X2_latestUserOf_7 g (nI s) (nI l) M n s' ∧ _
    rw [hs1, L_X2_latestUserOf_7, if_neg (show ¬ nI e < 0 from fun z => by have z2 : nI e < nI 0 := z; rw [nI_ltI (by omega) (by omega)] at z2; omega), show f_X2_fact g (nI e) 1 M = _ from h1, Option.bind_some, hne]
    unfold B_X2_latestUserOf_38
    rw [latU] at hla
    by_cases c1 : N (2702 + 6 * e + 1) = nI s
    · rw [if_pos c1, show f_X2_fact g (nI e) 2 M = _ from h2, Option.bind_some]
      by_cases c2 : N (2702 + 6 * e + 2) = nI l
      · rw [if_pos c2, show f_X2_fact g (nI e) 5 M = _ from h5]
        rw [if_pos (by unfold mtE; rw [decide_eq_true c1, decide_eq_true c2]; rfl)] at hla
        exact Or.inl (by rw [← hla]; rfl)
      · rw [if_neg c2, hpm]
        rw [if_neg (fun z => by unfold mtE at z; rw [Bool.and_eq_true, decide_eq_true_eq, decide_eq_true_eq] at z; exact c2 z.2)] at hla
        exact Or.inr ⟨_, rfl, rfl, hla⟩
    · rw [if_neg c1, hpm]
      rw [if_neg (fun z => by unfold mtE at z; rw [Bool.and_eq_true, decide_eq_true_eq, decide_eq_true_eq] at z; exact c1 z.1)] at hla
      exact Or.inr ⟨_, rfl, rfl, hla⟩
  · obtain ⟨rfl, hla⟩ := hσ
    show L_X2_latestUserOf_7 g (nI s) (nI l) M (n + 1) _ = _
    rw [Nat.sub_self] at hla ⊢
    rw [L_X2_latestUserOf_7, if_pos (show nI 0 - 1 < 0 by decide), ← hla]
    rfl
theorem m_blame28 {M : Mem} (hh : WFh (M.1 7 1)) {s l : Nat} : L_X9_blame_28 (nI s) (nI l) M FU mI 0 = some (latU (M.1 7 1) s l (hn (M.1 7 1)), M) := by
  have hl : hn (M.1 7 1) < 151 := hh.1.2
  have e27 : M.1 7 1 2701 = nI (hn (M.1 7 1)) := hh.1.1
  refine loop (fun n (σ : Int32 × Int32) => L_X9_blame_28 (nI s) (nI l) M n σ.1 σ.2) (fun e => (latU (M.1 7 1) s l e, nI e)) (hn (M.1 7 1)) (fun n e he => ?_) (fun n => ?_) FU (FU_lt (by omega))
  · show L_X9_blame_28 (nI s) (nI l) M (n + 1) _ _ = L_X9_blame_28 (nI s) (nI l) M n _ _
    rw [L_X9_blame_28, latU]
    unfold mtE B_X9_blame_90 B_X9_blame_91
    by_cases c1 : M.1 7 1 (2702 + 6 * e + 1) = nI s
    · by_cases c2 : M.1 7 1 (2702 + 6 * e + 2) = nI l
      · rw [decide_eq_true c1, decide_eq_true c2]
        simp (disch := omega) only [↓ite_b2r, ↓ite_nb2r, ↓lit_m1, ↓lit_m2, lit_0, lit_1, lit_2, lit_3, lit_4, lit_5, lit_6, lit_7, lit_8, lit_9, lit_10, lit_11, lit_12, lit_13, lit_14, lit_15, lit_16, lit_17, lit_18, lit_19, lit_20, lit_21, lit_22, lit_23, lit_24, lit_25, lit_26, lit_27, lit_28, lit_29, lit_30, lit_31, lit_32, lit_33, lit_34, lit_35, lit_36, lit_40, lit_41, lit_42, lit_44, lit_48, lit_57, lit_59, lit_62, lit_63, lit_64, lit_82, lit_98, lit_99, lit_100, lit_101, lit_102, lit_103, lit_104, lit_105, lit_106, lit_107, lit_108, lit_109, lit_110, lit_111, lit_112, lit_113, lit_119, lit_120, lit_127, lit_128, lit_149, lit_150, lit_202, lit_240, lit_262, lit_894, lit_900, lit_999, lit_1000, lit_2000, lit_2662, lit_2663, lit_2695, lit_2701, lit_2702, lit_3602, lit_10806, nI_add, pk_mul, cl_nI, inb_nI, nI_leI, nI_ltI, nI_eq, nI_eq_m1, m1_eq_nI, nI_eq_m2, div_nI, rem_nI, Option.bind_some, b2_0, b2_1, isb_b2, if_true_, if_false_, ↓reduceIte, reduceCtorEq, not_true_eq_false, not_false_eq_true, bt_hasBit, ult, Nat.add_zero, false_and, true_and, and_true, and_false, Nat.reduceLeDiff, Nat.reduceEqDiff, Nat.reduceLT, Bool.toNat_true, Bool.toNat_false, decide_true, decide_false, Bool.not_true, Bool.not_false, Bool.false_and, Bool.true_and, Bool.and_true, Bool.and_false, Bool.or_false, Bool.true_or, Bool.or_true, Bool.false_or, e27, Nat.not_le.mpr he, c1, c2]
      · rw [decide_eq_true c1, decide_eq_false c2]
        simp (disch := omega) only [↓ite_b2r, ↓ite_nb2r, ↓lit_m1, ↓lit_m2, lit_0, lit_1, lit_2, lit_3, lit_4, lit_5, lit_6, lit_7, lit_8, lit_9, lit_10, lit_11, lit_12, lit_13, lit_14, lit_15, lit_16, lit_17, lit_18, lit_19, lit_20, lit_21, lit_22, lit_23, lit_24, lit_25, lit_26, lit_27, lit_28, lit_29, lit_30, lit_31, lit_32, lit_33, lit_34, lit_35, lit_36, lit_40, lit_41, lit_42, lit_44, lit_48, lit_57, lit_59, lit_62, lit_63, lit_64, lit_82, lit_98, lit_99, lit_100, lit_101, lit_102, lit_103, lit_104, lit_105, lit_106, lit_107, lit_108, lit_109, lit_110, lit_111, lit_112, lit_113, lit_119, lit_120, lit_127, lit_128, lit_149, lit_150, lit_202, lit_240, lit_262, lit_894, lit_900, lit_999, lit_1000, lit_2000, lit_2662, lit_2663, lit_2695, lit_2701, lit_2702, lit_3602, lit_10806, nI_add, pk_mul, cl_nI, inb_nI, nI_leI, nI_ltI, nI_eq, nI_eq_m1, m1_eq_nI, nI_eq_m2, div_nI, rem_nI, Option.bind_some, b2_0, b2_1, isb_b2, if_true_, if_false_, ↓reduceIte, reduceCtorEq, not_true_eq_false, not_false_eq_true, bt_hasBit, ult, Nat.add_zero, false_and, true_and, and_true, and_false, Nat.reduceLeDiff, Nat.reduceEqDiff, Nat.reduceLT, Bool.toNat_true, Bool.toNat_false, decide_true, decide_false, Bool.not_true, Bool.not_false, Bool.false_and, Bool.true_and, Bool.and_true, Bool.and_false, Bool.or_false, Bool.true_or, Bool.or_true, Bool.false_or, e27, Nat.not_le.mpr he, c1, c2] <;> rfl
    · rw [decide_eq_false c1]
      simp (disch := omega) only [↓ite_b2r, ↓ite_nb2r, ↓lit_m1, ↓lit_m2, lit_0, lit_1, lit_2, lit_3, lit_4, lit_5, lit_6, lit_7, lit_8, lit_9, lit_10, lit_11, lit_12, lit_13, lit_14, lit_15, lit_16, lit_17, lit_18, lit_19, lit_20, lit_21, lit_22, lit_23, lit_24, lit_25, lit_26, lit_27, lit_28, lit_29, lit_30, lit_31, lit_32, lit_33, lit_34, lit_35, lit_36, lit_40, lit_41, lit_42, lit_44, lit_48, lit_57, lit_59, lit_62, lit_63, lit_64, lit_82, lit_98, lit_99, lit_100, lit_101, lit_102, lit_103, lit_104, lit_105, lit_106, lit_107, lit_108, lit_109, lit_110, lit_111, lit_112, lit_113, lit_119, lit_120, lit_127, lit_128, lit_149, lit_150, lit_202, lit_240, lit_262, lit_894, lit_900, lit_999, lit_1000, lit_2000, lit_2662, lit_2663, lit_2695, lit_2701, lit_2702, lit_3602, lit_10806, nI_add, pk_mul, cl_nI, inb_nI, nI_leI, nI_ltI, nI_eq, nI_eq_m1, m1_eq_nI, nI_eq_m2, div_nI, rem_nI, Option.bind_some, b2_0, b2_1, isb_b2, if_true_, if_false_, ↓reduceIte, reduceCtorEq, not_true_eq_false, not_false_eq_true, bt_hasBit, ult, Nat.add_zero, false_and, true_and, and_true, and_false, Nat.reduceLeDiff, Nat.reduceEqDiff, Nat.reduceLT, Bool.toNat_true, Bool.toNat_false, decide_true, decide_false, Bool.not_true, Bool.not_false, Bool.false_and, Bool.true_and, Bool.and_true, Bool.and_false, Bool.or_false, Bool.true_or, Bool.or_true, Bool.false_or, e27, Nat.not_le.mpr he, c1] <;> rfl
  · show L_X9_blame_28 (nI s) (nI l) M (n + 1) _ _ = _
    rw [L_X9_blame_28]
    simp (disch := omega) only [↓ite_b2r, ↓ite_nb2r, ↓lit_m1, ↓lit_m2, lit_0, lit_1, lit_2, lit_3, lit_4, lit_5, lit_6, lit_7, lit_8, lit_9, lit_10, lit_11, lit_12, lit_13, lit_14, lit_15, lit_16, lit_17, lit_18, lit_19, lit_20, lit_21, lit_22, lit_23, lit_24, lit_25, lit_26, lit_27, lit_28, lit_29, lit_30, lit_31, lit_32, lit_33, lit_34, lit_35, lit_36, lit_40, lit_41, lit_42, lit_44, lit_48, lit_57, lit_59, lit_62, lit_63, lit_64, lit_82, lit_98, lit_99, lit_100, lit_101, lit_102, lit_103, lit_104, lit_105, lit_106, lit_107, lit_108, lit_109, lit_110, lit_111, lit_112, lit_113, lit_119, lit_120, lit_127, lit_128, lit_149, lit_150, lit_202, lit_240, lit_262, lit_894, lit_900, lit_999, lit_1000, lit_2000, lit_2662, lit_2663, lit_2695, lit_2701, lit_2702, lit_3602, lit_10806, nI_add, pk_mul, cl_nI, inb_nI, nI_leI, nI_ltI, nI_eq, nI_eq_m1, m1_eq_nI, nI_eq_m2, div_nI, rem_nI, Option.bind_some, b2_0, b2_1, isb_b2, if_true_, if_false_, ↓reduceIte, reduceCtorEq, not_true_eq_false, not_false_eq_true, bt_hasBit, ult, Nat.add_zero, false_and, true_and, and_true, and_false, Nat.reduceLeDiff, Nat.reduceEqDiff, Nat.reduceLT, Bool.toNat_true, Bool.toNat_false, decide_true, decide_false, Bool.not_true, Bool.not_false, Bool.false_and, Bool.true_and, Bool.and_true, Bool.and_false, Bool.or_false, Bool.true_or, Bool.or_true, Bool.false_or, e27, Nat.le_refl]
theorem c_turnBack {T : Int32} (hh : WFh N) (h : RDh (M.1 g) N) : ∃ M', f_X2_turnBack g T M = some M' ∧ (∀ k, k < 120 → M'.1 g 17 k = wasK N T k (M.1 g 17 k) 0 (hn N)) ∧ (∀ j, j ≠ 17 → M'.1 g j = M.1 g j) ∧ Fr g M M' := by
  have hl : hn N < 151 := hh.1.2
  obtain ⟨e14, f, hf, hf1, hf2⟩ := h
  have e14 : M.1 g 14 2 = nI (hn N) := e14.trans hh.1.1
  unfold f_X2_turnBack
  rw [e14]
  refine loopE (fun n (σ : Int32 × Mem) => L_X2_turnBack_7 g T n σ.1 σ.2) (fun i σ => ∃ M', σ = (nI (hn N - i) - 1, M') ∧ (∀ k, k < 120 → M'.1 g 17 k = wasK N T k (M.1 g 17 k) (hn N - i) i) ∧ (∀ j, j ≠ 17 → M'.1 g j = M.1 g j) ∧ Fr g M M') (hn N) (fun n i σ hi hσ => ?_) (fun n σ hσ => ?_) FU (FU_lt (by omega)) (nI (hn N) - 1, M) ⟨M, rfl, fun _ _ => rfl, fun _ _ => rfl, Fr.rf⟩
  · obtain ⟨M1, rfl, a1, a2, a3⟩ := hσ
    obtain ⟨e, he⟩ : ∃ e, hn N - i = e + 1 := ⟨hn N - i - 1, by omega⟩
    have hne : hn N - (i + 1) = e := by omega
    show ∃ s', L_X2_turnBack_7 g T (n + 1) _ _ = L_X2_turnBack_7 g T n _ _ ∧ _
    rw [he, hne]
    rw [he] at a1
    have hs1 : nI (e + 1) - 1 = nI e := (pk_sub (b := 1) (by omega)).trans (by rw [Nat.add_sub_cancel])
    have hb1 : M1.1 g 14 1 = nI f := by rw [a2 14 (by omega)]; exact hf1
    have hv : ∀ w, w < 6 → f_X2_fact g (nI e) (nI w) M1 = some (N (2702 + 6 * e + w)) := fun w hw => by rw [c_hfact hb1 hf (by omega) hw, a2 15 (by omega), hf2 e w (by omega) hw]
    have hpm : nI e + (-1 : Int32) = nI e - 1 := by rw [Int32.sub_eq_add_neg]
    obtain ⟨v1, v2, -⟩ := hh.2 e (by omega)
    have v1l := v1.2
    have v2l := v2.2
    have hcell : f_X8_cellOf (N (2702 + 6 * e + 1)) (N (2702 + 6 * e + 2)) = nI (6 * cl (N (2702 + 6 * e + 1)) + cl (N (2702 + 6 * e + 2))) := by
      unfold f_X8_cellOf
      rw [v1.1, v2.1, show (6 : Int32) = nI 6 from rfl, pk_mul, nI_add, Nat.mul_comm, cl_nI (by omega), cl_nI (by omega)]
    generalize hkc : 6 * cl (N (2702 + 6 * e + 1)) + cl (N (2702 + 6 * e + 2)) = kc at hcell
    have hkl : kc < 120 := by omega
    have hw : f_X8_isWithin (nI kc) 0 (Int32.ofNat 120 - 1) = b2 true := (wiN (n := 120) (nI kc) (by omega)).trans (by rw [inR_nI (by omega) (by omega), decide_eq_true hkl])
    rw [hs1, L_X2_turnBack_7, if_neg (show ¬ nI e < 0 from fun z => by have z2 : nI e < nI 0 := z; rw [nI_ltI (by omega) (by omega)] at z2; omega), show f_X2_fact g (nI e) 1 M1 = _ from hv 1 (by decide), Option.bind_some, show f_X2_fact g (nI e) 2 M1 = _ from hv 2 (by decide), Option.bind_some, show f_X2_fact g (nI e) 0 M1 = _ from hv 0 (by decide), Option.bind_some, hcell]
    unfold B_X2_turnBack_61
    by_cases ht : N (2702 + 6 * e) ≤ T
    · refine ⟨(nI e - 1, M1), ?_, M1, rfl, fun k hk => ?_, a2, a3⟩
      · rw [Nat.add_zero, if_pos ht, hpm]
      · rw [wasK, if_neg (fun z => by unfold wasE at z; rw [decide_eq_true ht] at z; cases z)]
        exact a1 k hk
    · refine ⟨(nI e - 1, wr M1 g 17 kc (N (2702 + 6 * e + 3))), ?_, wr M1 g 17 kc (N (2702 + 6 * e + 3)), rfl, fun k hk => ?_, fun j hj => by rw [wr_other _ _ _ _ _ (by omega)]; exact a2 j hj, a3.tr (Fr_wr _ _ _ _ _)⟩
      · rw [Nat.add_zero, if_neg ht, hw, if_neg (show ¬ b2 true = 0 by decide), show f_X2_fact g (nI e) 3 M1 = _ from hv 3 (by decide), Option.bind_some, if_pos (by rw [inb_nI (by omega) (by omega)]; trivial), cl_nI (by omega), hpm]
      · rw [wr_same, wasK]
        have hE : wasE N T k e = decide (kc = k) := by unfold wasE; rw [decide_eq_false ht, hkc]; rfl
        rw [hE]
        by_cases h2 : k = kc
        · rw [h2, upd_same, if_pos (decide_eq_true rfl)]
        · rw [upd_other h2, if_neg (by rw [decide_eq_true_eq]; exact fun z => h2 z.symm)]
          exact a1 k hk
  · obtain ⟨M1, rfl, a1, a2, a3⟩ := hσ
    refine ⟨M1, ?_, fun k hk => ?_, a2, a3⟩
    · show L_X2_turnBack_7 g T (n + 1) _ _ = _
      rw [L_X2_turnBack_7]
      dsimp only
      rw [Nat.sub_self, if_pos (show nI 0 - 1 < 0 by decide)]
    · rw [Nat.sub_self] at a1
      exact a1 k hk
theorem m_was {M : Mem} (hh : WFh (M.1 7 1)) {s l : Nat} (hs : s < 20) (hl : l < 6) (T : Int32) : f_X9_was (nI s) (nI l) T M = some (wasK (M.1 7 1) T (6 * s + l) (M.1 7 1 (82 + 6 * s + l)) 0 (hn (M.1 7 1))) := by
  have hl2 : hn (M.1 7 1) < 151 := hh.1.2
  have e27 : M.1 7 1 2701 = nI (hn (M.1 7 1)) := hh.1.1
  unfold f_X9_was
  generalize hV : wasK (M.1 7 1) T (6 * s + l) (M.1 7 1 (82 + 6 * s + l)) 0 (hn (M.1 7 1)) = V
  refine loopI (fun n (σ : Int32) => L_X9_was_3 (nI s) (nI l) T M n σ) (fun e σ => σ = nI e ∧ wasK (M.1 7 1) T (6 * s + l) (M.1 7 1 (82 + 6 * s + l)) e (hn (M.1 7 1) - e) = V) (fun o => o = some V) (hn (M.1 7 1)) (fun n e σ he hσ => ?_) (fun n σ hσ => ?_) FU (FU_lt (by omega)) (nI 0) ⟨rfl, hV⟩
  · obtain ⟨rfl, hw⟩ := hσ
    obtain ⟨d, hd⟩ : ∃ d, hn (M.1 7 1) - e = d + 1 := ⟨hn (M.1 7 1) - e - 1, by omega⟩
    have hne : hn (M.1 7 1) - (e + 1) = d := by omega
    rw [hd, wasK, wasE_x hh hs hl he] at hw
    show (L_X9_was_3 (nI s) (nI l) T M (n + 1) _ = _) ∨ ∃ s', L_X9_was_3 (nI s) (nI l) T M (n + 1) _ = L_X9_was_3 (nI s) (nI l) T M n s' ∧ _
    rw [L_X9_was_3, hne]
    unfold B_X9_was_74
    unfold mtE at hw
    by_cases ht : M.1 7 1 (2702 + 6 * e) ≤ T
    · rw [decide_eq_true ht] at hw
      refine Or.inr ⟨nI (e + 1), ?_, rfl, hw⟩
      simp (disch := omega) only [↓ite_b2r, ↓ite_nb2r, ↓lit_m1, ↓lit_m2, lit_0, lit_1, lit_2, lit_3, lit_4, lit_5, lit_6, lit_7, lit_8, lit_9, lit_10, lit_11, lit_12, lit_13, lit_14, lit_15, lit_16, lit_17, lit_18, lit_19, lit_20, lit_21, lit_22, lit_23, lit_24, lit_25, lit_26, lit_27, lit_28, lit_29, lit_30, lit_31, lit_32, lit_33, lit_34, lit_35, lit_36, lit_40, lit_41, lit_42, lit_44, lit_48, lit_57, lit_59, lit_62, lit_63, lit_64, lit_82, lit_98, lit_99, lit_100, lit_101, lit_102, lit_103, lit_104, lit_105, lit_106, lit_107, lit_108, lit_109, lit_110, lit_111, lit_112, lit_113, lit_119, lit_120, lit_127, lit_128, lit_149, lit_150, lit_202, lit_240, lit_262, lit_894, lit_900, lit_999, lit_1000, lit_2000, lit_2662, lit_2663, lit_2695, lit_2701, lit_2702, lit_3602, lit_10806, nI_add, pk_mul, cl_nI, inb_nI, nI_leI, nI_ltI, nI_eq, nI_eq_m1, m1_eq_nI, nI_eq_m2, div_nI, rem_nI, Option.bind_some, b2_0, b2_1, isb_b2, if_true_, if_false_, ↓reduceIte, reduceCtorEq, not_true_eq_false, not_false_eq_true, bt_hasBit, ult, Nat.add_zero, false_and, true_and, and_true, and_false, Nat.reduceLeDiff, Nat.reduceEqDiff, Nat.reduceLT, Bool.toNat_true, Bool.toNat_false, decide_true, decide_false, Bool.not_true, Bool.not_false, Bool.false_and, Bool.true_and, Bool.and_true, Bool.and_false, Bool.or_false, Bool.true_or, Bool.or_true, Bool.false_or, e27, Nat.not_le.mpr he, ht]
    · rw [decide_eq_false ht] at hw
      by_cases c1 : M.1 7 1 (2702 + 6 * e + 1) = nI s
      · rw [decide_eq_true c1] at hw
        by_cases c2 : M.1 7 1 (2702 + 6 * e + 2) = nI l
        · rw [decide_eq_true c2] at hw
          refine Or.inl ?_
          rw [← hw]
          simp (disch := omega) only [↓ite_b2r, ↓ite_nb2r, ↓lit_m1, ↓lit_m2, lit_0, lit_1, lit_2, lit_3, lit_4, lit_5, lit_6, lit_7, lit_8, lit_9, lit_10, lit_11, lit_12, lit_13, lit_14, lit_15, lit_16, lit_17, lit_18, lit_19, lit_20, lit_21, lit_22, lit_23, lit_24, lit_25, lit_26, lit_27, lit_28, lit_29, lit_30, lit_31, lit_32, lit_33, lit_34, lit_35, lit_36, lit_40, lit_41, lit_42, lit_44, lit_48, lit_57, lit_59, lit_62, lit_63, lit_64, lit_82, lit_98, lit_99, lit_100, lit_101, lit_102, lit_103, lit_104, lit_105, lit_106, lit_107, lit_108, lit_109, lit_110, lit_111, lit_112, lit_113, lit_119, lit_120, lit_127, lit_128, lit_149, lit_150, lit_202, lit_240, lit_262, lit_894, lit_900, lit_999, lit_1000, lit_2000, lit_2662, lit_2663, lit_2695, lit_2701, lit_2702, lit_3602, lit_10806, nI_add, pk_mul, cl_nI, inb_nI, nI_leI, nI_ltI, nI_eq, nI_eq_m1, m1_eq_nI, nI_eq_m2, div_nI, rem_nI, Option.bind_some, b2_0, b2_1, isb_b2, if_true_, if_false_, ↓reduceIte, reduceCtorEq, not_true_eq_false, not_false_eq_true, bt_hasBit, ult, Nat.add_zero, false_and, true_and, and_true, and_false, Nat.reduceLeDiff, Nat.reduceEqDiff, Nat.reduceLT, Bool.toNat_true, Bool.toNat_false, decide_true, decide_false, Bool.not_true, Bool.not_false, Bool.false_and, Bool.true_and, Bool.and_true, Bool.and_false, Bool.or_false, Bool.true_or, Bool.or_true, Bool.false_or, e27, Nat.not_le.mpr he, ht, c1, c2]
        · rw [decide_eq_false c2] at hw
          refine Or.inr ⟨nI (e + 1), ?_, rfl, hw⟩
          simp (disch := omega) only [↓ite_b2r, ↓ite_nb2r, ↓lit_m1, ↓lit_m2, lit_0, lit_1, lit_2, lit_3, lit_4, lit_5, lit_6, lit_7, lit_8, lit_9, lit_10, lit_11, lit_12, lit_13, lit_14, lit_15, lit_16, lit_17, lit_18, lit_19, lit_20, lit_21, lit_22, lit_23, lit_24, lit_25, lit_26, lit_27, lit_28, lit_29, lit_30, lit_31, lit_32, lit_33, lit_34, lit_35, lit_36, lit_40, lit_41, lit_42, lit_44, lit_48, lit_57, lit_59, lit_62, lit_63, lit_64, lit_82, lit_98, lit_99, lit_100, lit_101, lit_102, lit_103, lit_104, lit_105, lit_106, lit_107, lit_108, lit_109, lit_110, lit_111, lit_112, lit_113, lit_119, lit_120, lit_127, lit_128, lit_149, lit_150, lit_202, lit_240, lit_262, lit_894, lit_900, lit_999, lit_1000, lit_2000, lit_2662, lit_2663, lit_2695, lit_2701, lit_2702, lit_3602, lit_10806, nI_add, pk_mul, cl_nI, inb_nI, nI_leI, nI_ltI, nI_eq, nI_eq_m1, m1_eq_nI, nI_eq_m2, div_nI, rem_nI, Option.bind_some, b2_0, b2_1, isb_b2, if_true_, if_false_, ↓reduceIte, reduceCtorEq, not_true_eq_false, not_false_eq_true, bt_hasBit, ult, Nat.add_zero, false_and, true_and, and_true, and_false, Nat.reduceLeDiff, Nat.reduceEqDiff, Nat.reduceLT, Bool.toNat_true, Bool.toNat_false, decide_true, decide_false, Bool.not_true, Bool.not_false, Bool.false_and, Bool.true_and, Bool.and_true, Bool.and_false, Bool.or_false, Bool.true_or, Bool.or_true, Bool.false_or, e27, Nat.not_le.mpr he, ht, c1, c2]
      · rw [decide_eq_false c1] at hw
        refine Or.inr ⟨nI (e + 1), ?_, rfl, hw⟩
        simp (disch := omega) only [↓ite_b2r, ↓ite_nb2r, ↓lit_m1, ↓lit_m2, lit_0, lit_1, lit_2, lit_3, lit_4, lit_5, lit_6, lit_7, lit_8, lit_9, lit_10, lit_11, lit_12, lit_13, lit_14, lit_15, lit_16, lit_17, lit_18, lit_19, lit_20, lit_21, lit_22, lit_23, lit_24, lit_25, lit_26, lit_27, lit_28, lit_29, lit_30, lit_31, lit_32, lit_33, lit_34, lit_35, lit_36, lit_40, lit_41, lit_42, lit_44, lit_48, lit_57, lit_59, lit_62, lit_63, lit_64, lit_82, lit_98, lit_99, lit_100, lit_101, lit_102, lit_103, lit_104, lit_105, lit_106, lit_107, lit_108, lit_109, lit_110, lit_111, lit_112, lit_113, lit_119, lit_120, lit_127, lit_128, lit_149, lit_150, lit_202, lit_240, lit_262, lit_894, lit_900, lit_999, lit_1000, lit_2000, lit_2662, lit_2663, lit_2695, lit_2701, lit_2702, lit_3602, lit_10806, nI_add, pk_mul, cl_nI, inb_nI, nI_leI, nI_ltI, nI_eq, nI_eq_m1, m1_eq_nI, nI_eq_m2, div_nI, rem_nI, Option.bind_some, b2_0, b2_1, isb_b2, if_true_, if_false_, ↓reduceIte, reduceCtorEq, not_true_eq_false, not_false_eq_true, bt_hasBit, ult, Nat.add_zero, false_and, true_and, and_true, and_false, Nat.reduceLeDiff, Nat.reduceEqDiff, Nat.reduceLT, Bool.toNat_true, Bool.toNat_false, decide_true, decide_false, Bool.not_true, Bool.not_false, Bool.false_and, Bool.true_and, Bool.and_true, Bool.and_false, Bool.or_false, Bool.true_or, Bool.or_true, Bool.false_or, e27, Nat.not_le.mpr he, ht, c1]
  · obtain ⟨rfl, hw⟩ := hσ
    show L_X9_was_3 (nI s) (nI l) T M (n + 1) _ = _
    rw [Nat.sub_self] at hw
    rw [L_X9_was_3, ← hw]
    simp (disch := omega) only [↓ite_b2r, ↓ite_nb2r, ↓lit_m1, ↓lit_m2, lit_0, lit_1, lit_2, lit_3, lit_4, lit_5, lit_6, lit_7, lit_8, lit_9, lit_10, lit_11, lit_12, lit_13, lit_14, lit_15, lit_16, lit_17, lit_18, lit_19, lit_20, lit_21, lit_22, lit_23, lit_24, lit_25, lit_26, lit_27, lit_28, lit_29, lit_30, lit_31, lit_32, lit_33, lit_34, lit_35, lit_36, lit_40, lit_41, lit_42, lit_44, lit_48, lit_57, lit_59, lit_62, lit_63, lit_64, lit_82, lit_98, lit_99, lit_100, lit_101, lit_102, lit_103, lit_104, lit_105, lit_106, lit_107, lit_108, lit_109, lit_110, lit_111, lit_112, lit_113, lit_119, lit_120, lit_127, lit_128, lit_149, lit_150, lit_202, lit_240, lit_262, lit_894, lit_900, lit_999, lit_1000, lit_2000, lit_2662, lit_2663, lit_2695, lit_2701, lit_2702, lit_3602, lit_10806, nI_add, pk_mul, cl_nI, inb_nI, nI_leI, nI_ltI, nI_eq, nI_eq_m1, m1_eq_nI, nI_eq_m2, div_nI, rem_nI, Option.bind_some, b2_0, b2_1, isb_b2, if_true_, if_false_, ↓reduceIte, reduceCtorEq, not_true_eq_false, not_false_eq_true, bt_hasBit, ult, Nat.add_zero, false_and, true_and, and_true, and_false, Nat.reduceLeDiff, Nat.reduceEqDiff, Nat.reduceLT, Bool.toNat_true, Bool.toNat_false, decide_true, decide_false, Bool.not_true, Bool.not_false, Bool.false_and, Bool.true_and, Bool.and_true, Bool.and_false, Bool.or_false, Bool.true_or, Bool.or_true, Bool.false_or, e27, Nat.le_refl] <;> rfl
end HI
