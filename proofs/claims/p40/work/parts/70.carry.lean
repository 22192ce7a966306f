/-! ===== the text is carried out ===== -/
theorem kN_let {x : Int32} (h : kN x ≠ 0) : x = nI 98 ∨ x = nI 100 ∨ x = nI 101 ∨ x = nI 103 ∨ x = nI 112 ∨ x = nI 113 := by
  by_cases h98 : x = 98
  · exact Or.inl h98
  by_cases h100 : x = 100
  · exact Or.inr (Or.inl h100)
  by_cases h101 : x = 101
  · exact Or.inr (Or.inr (Or.inl h101))
  by_cases h103 : x = 103
  · exact Or.inr (Or.inr (Or.inr (Or.inl h103)))
  by_cases h112 : x = 112
  · exact Or.inr (Or.inr (Or.inr (Or.inr (Or.inl h112))))
  by_cases h113 : x = 113
  · exact Or.inr (Or.inr (Or.inr (Or.inr (Or.inr h113))))
  exfalso
  apply h
  unfold kN f_X3_numbersAfter
  simp only [h98, h100, h101, h103, h112, h113, if_false, ite_self]
  rfl
section CO
variable {Mc Mr : Mem} {N : Row}
theorem order_any {q : Nat} (hq : q < 30) {L V Lr Vr : Nat → Int32} {o : Nat} (hd : DN L V Lr Vr o) (hqo : q < o) (h1 : Mc.1 6 5 = L) (h2 : Mc.1 6 6 = V) (h3 : Mr.1 7 8 = Lr) (h4 : Mr.1 7 9 = Vr) (hN : WFa N) (hr : RD (Mc.1 1) N) (h71 : Mr.1 7 1 = N) (hb : cl (N 0) + 1000 < 134217728) : OD N Mc Mr (f_X8_runOrder (nI q) Mc) (f_X9_doesOrder (nI q) Mr) := by
  obtain ⟨d1, d2, d3⟩ := hd q hqo
  rw [runs_eq hq (x := L q) (V := fun w => V (4 * q + w)) (by rw [h1]) (fun w _ => by rw [h2]), does_eq hq (x := L q) (U := fun w => Vr (4 * q + w)) (by rw [h3, d1]) (fun w _ => by rw [h4])]
  rcases kN_let d2 with h | h | h | h | h | h
  · rw [h] at d3 ⊢
    rw [d3 0 (by decide)]
    exact od_98 hN hr h71 _ _ _ _ _ _ _
  · rw [h] at d3 ⊢
    rw [d3 0 (by decide)]
    exact od_100 hN hr h71 _ _ _ _ _ _ _
  · rw [h] at d3 ⊢
    rw [d3 0 (by decide), d3 1 (by decide), d3 2 (by decide), d3 3 (by decide)]
    exact od_101 hN hr h71 _ _ _ _
  · rw [h] at d3 ⊢
    rw [d3 0 (by decide), d3 1 (by decide)]
    exact od_103 hN hr h71 _ _ _ _ _ _
  · rw [h] at d3 ⊢
    rw [d3 0 (by decide)]
    exact od_112 hN hr h71 hb _ _ _ _ _ _ _
  · rw [h] at d3 ⊢
    rw [d3 0 (by decide), d3 1 (by decide), d3 2 (by decide), d3 3 (by decide)]
    exact od_113 hN hr h71 _ _ _ _
def okC (M : Mem) : Option (Int32 × Mem) := (f_X6_push 0 M).bind fun q5 => (f_X1_copyFrom 0 1 q5).bind fun q6 => some ((q6.1 6 3 4), q6)
theorem ar_1 {a d : Nat} (h : a + 1000 * (d + 1) < 134217728) : a + 1000 < 134217728 := Nat.lt_of_le_of_lt (Nat.add_le_add_left (Nat.le_mul_of_pos_right 1000 (Nat.succ_pos d)) a) h
theorem ar_2 {a b d : Nat} (h : a + 1000 * (d + 1) < 134217728) (h2 : b ≤ a + 1000) : b + 1000 * d < 134217728 := by omega
theorem ar_3 {a b c d : Nat} (h : c ≤ b + 1000 * d) (h2 : b ≤ a + 1000) : c ≤ a + 1000 * (d + 1) := by omega
theorem run_step {L V Lr Vr : Nat → Int32} {o : Nat} (ho : o ≤ 30) (hd : DN L V Lr Vr o) {i : Nat} {R : Row} (hi : i < o) (h1 : Mc.1 6 5 = L) (h2 : Mc.1 6 6 = V) (h3 : Mc.1 6 3 4 = nI o) (h4 : Mr.1 7 8 = Lr) (h5 : Mr.1 7 9 = Vr) (h6 : Mr.1 7 0 11 = nI o) (hW : WFa R) (hr : RD (Mc.1 1) R) (h71 : Mr.1 7 1 = R) (hb : cl (R 0) + 1000 < 134217728) :
    (∃ Mr', (∀ n, L_X8_carryOut_31 (n + 1) (nI i) Mc = some (-1000 - nI i, Mc)) ∧ (∀ n, L_X9_carryOut_26 (n + 1) (nI i) Mr = (f_X9_takesBack Mr').bind fun q14 => some (-1000 - nI i, q14)) ∧ FrN Mr Mr') ∨
    (∃ Mc' Mr' R', (∀ n, L_X8_carryOut_31 (n + 1) (nI i) Mc = L_X8_carryOut_31 n (nI (i + 1)) Mc') ∧ Fr 1 Mc Mc' ∧ (∀ n, L_X9_carryOut_26 (n + 1) (nI i) Mr = L_X9_carryOut_26 n (nI (i + 1)) Mr') ∧ FrN Mr Mr' ∧ Mr'.1 7 1 = R' ∧ RD (Mc'.1 1) R' ∧ WFa R' ∧ cl (R' 0) ≤ cl (R 0) + 1000 ∧ R' 1 = R 1) := by
  have hor := order_any (show i < 30 by omega) hd hi h1 h2 h4 h5 hW hr h71 hb
  have hle : ¬ nI o ≤ nI i := fun z => by rw [nI_leI (by omega) (by omega)] at z; omega
  have eC : ∀ m q, f_X8_runOrder (nI i) Mc = q → L_X8_carryOut_31 (m + 1) (nI i) Mc = q.bind fun q7 => if q7.1 = 0 then some ((((-1000) : Int32) - nI i), q7.2) else (L_X8_carryOut_31 m) (nI i + 1) q7.2 := fun m q hq => by
    rw [L_X8_carryOut_31, h3, if_neg hle, hq]
  have eR : ∀ m q, f_X9_doesOrder (nI i) Mr = q → L_X9_carryOut_26 (m + 1) (nI i) Mr = q.bind fun q12 => if q12.1 = 0 then (f_X9_takesBack q12.2).bind fun q14 => some ((((-1000) : Int32) - nI i), q14) else (L_X9_carryOut_26 m) (nI i + 1) q12.2 := fun m q hq => by
    rw [L_X9_carryOut_26, h6, if_neg hle, hq]
  rcases hor with ⟨a1, Mr', a2, a3⟩ | ⟨Mc', Mr', R', a1, a2, a3, a4, a5, a6, a7, a8, a9⟩
  · refine Or.inl ⟨Mr', fun n => ?_, fun n => ?_, a3⟩
    · rw [eC n _ a1, Option.bind_some, if_pos (show (nI 0, Mc).1 = 0 from rfl)]
    · rw [eR n _ a2, Option.bind_some, if_pos (show (nI 0, Mr').1 = 0 from rfl)]
  · refine Or.inr ⟨Mc', Mr', R', fun n => ?_, a3, fun n => ?_, a6, a5, a2, a7, a8, a9⟩
    · rw [eC n _ a1, Option.bind_some, if_neg (show ¬ (nI 1, Mc').1 = 0 from (show ¬ nI 1 = 0 by decide)), nI_1]
    · rw [eR n _ a4, Option.bind_some, if_neg (show ¬ (nI 1, Mr').1 = 0 from (show ¬ nI 1 = 0 by decide)), nI_1]
def RunOut (d : Nat) (i : Nat) (Mc Mr : Mem) (R : Row) : Prop :=
    (∃ q Mc' Mr', (∀ n, d < n → L_X8_carryOut_31 n (nI i) Mc = some (-1000 - nI q, Mc')) ∧ Fr 1 Mc Mc' ∧ (∀ n, d < n → L_X9_carryOut_26 n (nI i) Mr = (f_X9_takesBack Mr').bind fun q14 => some (-1000 - nI q, q14)) ∧ FrN Mr Mr') ∨
    (∃ Mc' Mr' R', (∀ n, d < n → L_X8_carryOut_31 n (nI i) Mc = okC Mc') ∧ Fr 1 Mc Mc' ∧ (∀ n, d < n → L_X9_carryOut_26 n (nI i) Mr = L_X9_carryOut_60 FU 0 Mr') ∧ FrN Mr Mr' ∧ Mr'.1 7 1 = R' ∧ RD (Mc'.1 1) R' ∧ WFa R' ∧ cl (R' 0) ≤ cl (R 0) + 1000 * d ∧ R' 1 = R 1)
theorem run_0 {o i : Nat} {R : Row} (ho : o ≤ 30) (hi : i = o) (h3 : Mc.1 6 3 4 = nI o) (h6 : Mr.1 7 0 11 = nI o) (hW : WFa R) (hr : RD (Mc.1 1) R) (h71 : Mr.1 7 1 = R) : RunOut 0 i Mc Mr R := by
  subst hi
  refine Or.inr ⟨Mc, Mr, R, fun n hn => ?_, Fr.rf, fun n hn => ?_, FrN.rf, h71, hr, hW, Nat.le_add_right _ _, rfl⟩
  · obtain ⟨m, rfl⟩ : ∃ m, n = m + 1 := ⟨n - 1, by omega⟩
    rw [L_X8_carryOut_31, h3, if_pos (Int32.le_refl _)]
    rfl
  · obtain ⟨m, rfl⟩ : ∃ m, n = m + 1 := ⟨n - 1, by omega⟩
    rw [L_X9_carryOut_26, h6, if_pos (Int32.le_refl _)]
theorem run_cons {d i : Nat} {Mc' Mr' : Mem} {R R' : Row} (e1 : ∀ n, L_X8_carryOut_31 (n + 1) (nI i) Mc = L_X8_carryOut_31 n (nI (i + 1)) Mc') (f1 : Fr 1 Mc Mc') (e2 : ∀ n, L_X9_carryOut_26 (n + 1) (nI i) Mr = L_X9_carryOut_26 n (nI (i + 1)) Mr') (f2 : FrN Mr Mr') (hb : cl (R' 0) ≤ cl (R 0) + 1000) (h1 : R' 1 = R 1) (h : RunOut d (i + 1) Mc' Mr' R') : RunOut (d + 1) i Mc Mr R := by
  rcases h with ⟨q, Mc2, Mr2, b1, b2', b3, b4⟩ | ⟨Mc2, Mr2, R2, b1, b2', b3, b4, b5, b6, b7, b8, b9⟩
  · refine Or.inl ⟨q, Mc2, Mr2, fun n hn => ?_, f1.tr b2', fun n hn => ?_, f2.tr b4⟩
    · obtain ⟨m, rfl⟩ : ∃ m, n = m + 1 := ⟨n - 1, by omega⟩
      rw [e1]
      exact b1 m (by omega)
    · obtain ⟨m, rfl⟩ : ∃ m, n = m + 1 := ⟨n - 1, by omega⟩
      rw [e2]
      exact b3 m (by omega)
  · refine Or.inr ⟨Mc2, Mr2, R2, fun n hn => ?_, f1.tr b2', fun n hn => ?_, f2.tr b4, b5, b6, b7, ar_3 b8 hb, b9.trans h1⟩
    · obtain ⟨m, rfl⟩ : ∃ m, n = m + 1 := ⟨n - 1, by omega⟩
      rw [e1]
      exact b1 m (by omega)
    · obtain ⟨m, rfl⟩ : ∃ m, n = m + 1 := ⟨n - 1, by omega⟩
      rw [e2]
      exact b3 m (by omega)
theorem run_all {L V Lr Vr : Nat → Int32} {o : Nat} (ho : o ≤ 30) (hd : DN L V Lr Vr o) (d : Nat) : ∀ (i : Nat) (Mc Mr : Mem) (R : Row), i + d = o → Mc.1 6 5 = L → Mc.1 6 6 = V → Mc.1 6 3 4 = nI o → Mr.1 7 8 = Lr → Mr.1 7 9 = Vr → Mr.1 7 0 11 = nI o → WFa R → RD (Mc.1 1) R → Mr.1 7 1 = R → cl (R 0) + 1000 * d < 134217728 → RunOut d i Mc Mr R := by
  induction d with
  | zero => exact fun i Mc Mr R hi h1 h2 h3 h4 h5 h6 hW hr h71 hb => run_0 ho hi h3 h6 hW hr h71
  | succ d ih =>
    intro i Mc Mr R hi h1 h2 h3 h4 h5 h6 hW hr h71 hb
    have hio : i < o := by clear ih hb; omega
    have hio2 : i + 1 + d = o := by clear ih hb; omega
    rcases run_step ho hd hio h1 h2 h3 h4 h5 h6 hW hr h71 (ar_1 hb) with ⟨Mr', a1, a2, a3⟩ | ⟨Mc', Mr', R', a1, a2, a3, a4, a5, a6, a7, a8, a9⟩
    · refine Or.inl ⟨i, Mc, Mr', fun n hn => ?_, Fr.rf, fun n hn => ?_, a3⟩
      · obtain ⟨m, rfl⟩ : ∃ m, n = m + 1 := ⟨n - 1, by clear ih hb; omega⟩
        exact a1 m
      · obtain ⟨m, rfl⟩ : ∃ m, n = m + 1 := ⟨n - 1, by clear ih hb; omega⟩
        exact a2 m
    · have g6 : Mc'.1 6 = Mc.1 6 := a2.1 6 (by decide)
      have g7 : ∀ j, j = 0 ∨ j = 8 ∨ j = 9 → Mr'.1 7 j = Mr.1 7 j := fun j hj => by
        clear ih hb
        exact a4.2.2 j (by omega) (by omega) (by omega) (by omega)
      exact run_cons a1 a2 a3 a4 a8 a9 (ih (i + 1) Mc' Mr' R' hio2 (by rw [g6]; exact h1) (by rw [g6]; exact h2) (by rw [g6]; exact h3) (by rw [g7 8 (Or.inr (Or.inl rfl))]; exact h4) (by rw [g7 9 (Or.inr (Or.inr rfl))]; exact h5) (by rw [g7 0 (Or.inl rfl)]; exact h6) a7 a6 a5 (ar_2 hb a8))
theorem wrs_13 (M : Mem) (a b a' b' : Nat → Int32) : wrs (wrs (wrs (wrs M 7 1 a) 7 3 b) 7 1 a') 7 3 b' = wrs (wrs M 7 1 a') 7 3 b' := by
  refine Prod.ext ?_ rfl
  funext g j
  by_cases h3 : g = 7 ∧ j = 3
  · obtain ⟨rfl, rfl⟩ := h3
    rw [wrs_same, wrs_same]
  · rw [wrs_other _ _ _ _ h3, wrs_other (wrs M 7 1 a') _ _ _ h3]
    by_cases h1 : g = 7 ∧ j = 1
    · obtain ⟨rfl, rfl⟩ := h1
      rw [wrs_same, wrs_same]
    · rw [wrs_other _ _ _ _ h1, wrs_other _ _ _ _ h3, wrs_other _ _ _ _ h1, wrs_other _ _ _ _ h1]
/-- the trial's row and the row laid aside change places -/
theorem m_swap (M : Mem) : L_X9_carryOut_60 FU 0 M = (f_X9_saves (wrs (wrs M 7 1 (mixF (M.1 7 3) (M.1 7 1) 3602)) 7 3 (mixF (M.1 7 1) (M.1 7 3) 3602))).bind fun q6 => (f_X9_takesBack q6).bind fun q7 => some ((q7.1 7 0 11), q7) := by
  refine loop0 (fun n (σ : Int32 × Mem) => L_X9_carryOut_60 n σ.1 σ.2) (fun i => (nI i, wrs (wrs M 7 1 (mixF (M.1 7 3) (M.1 7 1) i)) 7 3 (mixF (M.1 7 1) (M.1 7 3) i))) 3602 (nI 0, M) ?_ (fun n i hi => ?_) (fun n => ?_) FU (by decide)
  · rw [mixF_0, mixF_0, wrs_self]
    have : wrs M 7 3 (M.1 7 3) = M := wrs_self M 7 3
    rw [this]
  · show L_X9_carryOut_60 (n + 1) _ _ = L_X9_carryOut_60 n _ _
    generalize hM2 : wrs (wrs M 7 1 (mixF (M.1 7 3) (M.1 7 1) i)) 7 3 (mixF (M.1 7 1) (M.1 7 3) i) = M2
    have e1 : M2.1 7 1 = mixF (M.1 7 3) (M.1 7 1) i := by rw [← hM2, wrs_other _ _ _ _ (by omega), wrs_same]
    have e3 : M2.1 7 3 = mixF (M.1 7 1) (M.1 7 3) i := by rw [← hM2, wrs_same]
    have v1 : M2.1 7 1 i = M.1 7 1 i := by rw [e1]; unfold mixF; rw [if_neg (Nat.lt_irrefl _)]
    have v3 : M2.1 7 3 i = M.1 7 3 i := by rw [e3]; unfold mixF; rw [if_neg (Nat.lt_irrefl _)]
    rw [L_X9_carryOut_60]
    simp (disch := omega) only [↓ite_b2r, ↓ite_nb2r, ↓lit_m1, ↓lit_m2, lit_0, lit_1, lit_2, lit_3, lit_4, lit_5, lit_6, lit_7, lit_8, lit_9, lit_10, lit_11, lit_12, lit_13, lit_14, lit_15, lit_16, lit_17, lit_18, lit_19, lit_20, lit_21, lit_22, lit_23, lit_24, lit_25, lit_26, lit_27, lit_28, lit_29, lit_30, lit_31, lit_32, lit_33, lit_34, lit_35, lit_36, lit_40, lit_41, lit_42, lit_44, lit_48, lit_57, lit_59, lit_62, lit_63, lit_64, lit_82, lit_98, lit_99, lit_100, lit_101, lit_102, lit_103, lit_104, lit_105, lit_106, lit_107, lit_108, lit_109, lit_110, lit_111, lit_112, lit_113, lit_119, lit_120, lit_127, lit_128, lit_149, lit_150, lit_202, lit_240, lit_262, lit_894, lit_900, lit_999, lit_1000, lit_2000, lit_2662, lit_2663, lit_2695, lit_2701, lit_2702, lit_3602, lit_10806, nI_add, pk_mul, cl_nI, inb_nI, nI_leI, nI_ltI, nI_eq, nI_eq_m1, m1_eq_nI, nI_eq_m2, div_nI, rem_nI, Option.bind_some, b2_0, b2_1, isb_b2, if_true_, if_false_, ↓reduceIte, reduceCtorEq, not_true_eq_false, not_false_eq_true, bt_hasBit, ult, Nat.add_zero, false_and, true_and, and_true, and_false, Nat.reduceLeDiff, Nat.reduceEqDiff, Nat.reduceLT, Bool.toNat_true, Bool.toNat_false, decide_true, decide_false, Bool.not_true, Bool.not_false, Bool.false_and, Bool.true_and, Bool.and_true, Bool.and_false, Bool.or_false, Bool.true_or, Bool.or_true, Bool.false_or, Nat.not_le.mpr hi, v1, v3, hi]
    congr 1
    have w1 : wr M2 7 1 i (M.1 7 3 i) = wrs M2 7 1 (mixF (M.1 7 3) (M.1 7 1) (i + 1)) := by
      show wrs M2 7 1 (upd (M2.1 7 1) i (M.1 7 3 i)) = _
      rw [e1, mixF_s]
    rw [w1]
    have w2 : ∀ r, wr (wrs M2 7 1 r) 7 3 i (M.1 7 1 i) = wrs (wrs M2 7 1 r) 7 3 (mixF (M.1 7 1) (M.1 7 3) (i + 1)) := fun r => by
      show wrs (wrs M2 7 1 r) 7 3 (upd ((wrs M2 7 1 r).1 7 3) i (M.1 7 1 i)) = _
      rw [wrs_other _ _ _ _ (by omega), e3, mixF_s]
    rw [w2, ← hM2]
    exact wrs_13 _ _ _ _ _
  · show L_X9_carryOut_60 (n + 1) _ _ = _
    rw [L_X9_carryOut_60]
    dsimp only
    rw [if_pos (show (3602 : Int32) ≤ nI 3602 from Int32.le_refl _)]
end CO
