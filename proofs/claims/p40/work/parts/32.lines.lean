/-! ===== one change of the document ===== -/
def cellS (T : Nat → Int32) (u : Int32) (p : Nat × Row) (k : Nat) : Nat × Row := if p.2 (82 + k) = T k then p else (p.1 + 1, upd (gEnt p.2 (k / 6) (k % 6) (p.2 (82 + k)) (T k) u) (82 + k) (T k))
def cellsS (T : Nat → Int32) (u : Int32) (p : Nat × Row) (s : Nat) : Nat → Nat × Row
  | 0 => p
  | l + 1 => cellS T u (cellsS T u p s l) (6 * s + l)
def verS (a b s : Nat) (N : Row) : Row := if b ≤ a then N else upd N (62 + s) (N (62 + s) + nI 1)
def secS (T : Nat → Int32) (u : Int32) (p : Nat × Row) (s : Nat) : Nat × Row := ((cellsS T u p s 6).1, verS p.1 (cellsS T u p s 6).1 s (cellsS T u p s 6).2)
def becS (T : Nat → Int32) (u : Int32) (p : Nat × Row) : Nat → Nat × Row
  | 0 => p
  | s + 1 => secS T u (becS T u p s) s
def BI (N : Row) (T : Nat → Int32) (m : Nat) (p : Nat × Row) : Prop := eqR 0 62 p.2 N ∧ eqR 202 2701 p.2 N ∧ (∀ k, 3602 ≤ k → p.2 k = N k) ∧ (∀ k, k < 120 → p.2 (82 + k) = if k < m then T k else N (82 + k)) ∧ WFh p.2 ∧ p.1 ≤ m
theorem BI_cell {N : Row} {T : Nat → Int32} {u : Int32} (hN : ∀ k, k < 120 → isV N (82 + k) 1000) {m : Nat} {p : Nat × Row} (h : BI N T m p) (hm : m < 120) : BI N T (m + 1) (cellS T u p m) := by
  obtain ⟨h1, h2, h3, h4, h5, h6⟩ := h
  unfold cellS
  by_cases he : p.2 (82 + m) = T m
  · rw [if_pos he]
    refine ⟨h1, h2, h3, fun k hk => ?_, h5, by omega⟩
    by_cases hkm : k = m
    · subst hkm; rw [if_pos (by omega)]; exact he
    · rw [h4 k hk]
      by_cases h7 : k < m
      · rw [if_pos h7, if_pos (by omega)]
      · rw [if_neg h7, if_neg (by omega)]
  · rw [if_neg he]
    have hb := h4 m hm
    rw [if_neg (by omega)] at hb
    have hv := hN m hm
    have hW : WFh (gEnt p.2 (m / 6) (m % 6) (p.2 (82 + m)) (T m) u) := WFh_gEnt h5 (by omega) (by omega) (by rw [hb]; exact hv)
    refine ⟨fun k a b => ?_, fun k a b => ?_, fun k a => ?_, fun k hk => ?_, WFh_cg (fun k a b => ?_) hW, by show p.1 + 1 ≤ m + 1; omega⟩
    · show upd _ _ _ k = _
      rw [upd_other (by omega), gEnt_lo (by omega)]; exact h1 k a b
    · show upd _ _ _ k = _
      rw [upd_other (by omega), gEnt_lo (by omega)]; exact h2 k a b
    · show upd _ _ _ k = _
      rw [upd_other (by omega), gEnt_hi h5 a]; exact h3 k a
    · show upd _ _ _ _ = _
      by_cases hkm : k = m
      · subst hkm; rw [upd_same, if_pos (by omega)]
      · rw [upd_other (by omega), gEnt_lo (by omega), h4 k hk]
        by_cases h7 : k < m
        · rw [if_pos h7, if_pos (by omega)]
        · rw [if_neg h7, if_neg (by omega)]
    · show upd _ _ _ k = _
      rw [upd_other (by omega)]
theorem BI_cells {N : Row} {T : Nat → Int32} {u : Int32} (hN : ∀ k, k < 120 → isV N (82 + k) 1000) {s : Nat} {p : Nat × Row} (hs : s < 20) (h : BI N T (6 * s) p) : ∀ l, l ≤ 6 → BI N T (6 * s + l) (cellsS T u p s l)
  | 0, _ => h
  | l + 1, hl => by
    have h2 := BI_cells (u := u) hN hs h l (by omega)
    exact BI_cell (m := 6 * s + l) hN h2 (by omega)
theorem cellsS_le (T : Nat → Int32) (u : Int32) (p : Nat × Row) (s : Nat) : ∀ l, p.1 ≤ (cellsS T u p s l).1
  | 0 => Nat.le_refl _
  | l + 1 => by
    have := cellsS_le T u p s l
    rw [cellsS, cellS]
    by_cases h : (cellsS T u p s l).2 (82 + (6 * s + l)) = T (6 * s + l)
    · rw [if_pos h]; exact this
    · rw [if_neg h]; show p.1 ≤ _ + 1; omega
theorem verS_o {a b s k : Nat} {N : Row} (h : k ≠ 62 + s) : verS a b s N k = N k := by
  unfold verS
  by_cases hb : b ≤ a
  · rw [if_pos hb]
  · rw [if_neg hb, upd_other h]
theorem BI_sec {N : Row} {T : Nat → Int32} {u : Int32} (hN : ∀ k, k < 120 → isV N (82 + k) 1000) {s : Nat} {p : Nat × Row} (hs : s < 20) (h : BI N T (6 * s) p) : BI N T (6 * (s + 1)) (secS T u p s) := by
  have hc := BI_cells (u := u) hN hs h 6 (by omega)
  unfold secS
  generalize cellsS T u p s 6 = q at hc ⊢
  obtain ⟨h1, h2, h3, h4, h5, h6⟩ := hc
  refine ⟨fun k a b => ?_, fun k a b => ?_, fun k a => ?_, fun k hk => ?_, WFh_cg (fun k a b => ?_) h5, by show q.1 ≤ _; omega⟩
  · show verS _ _ _ _ k = _
    rw [verS_o (by omega)]; exact h1 k a b
  · show verS _ _ _ _ k = _
    rw [verS_o (by omega)]; exact h2 k a b
  · show verS _ _ _ _ k = _
    rw [verS_o (by omega)]; exact h3 k a
  · show verS _ _ _ _ _ = _
    rw [verS_o (by omega), h4 k hk, show 6 * (s + 1) = 6 * s + 6 by omega]
  · show verS _ _ _ _ k = _
    rw [verS_o (by omega)]
theorem BI_0 {N : Row} (T : Nat → Int32) (hh : WFh N) : BI N T 0 (0, N) := ⟨eqR.rf, eqR.rf, fun _ _ => rfl, fun k _ => by rw [if_neg (Nat.not_lt_zero k)], hh, Nat.le_refl _⟩
theorem BI_bec {N : Row} {T : Nat → Int32} {u : Int32} (hN : ∀ k, k < 120 → isV N (82 + k) 1000) (hh : WFh N) : ∀ s, s ≤ 20 → BI N T (6 * s) (becS T u (0, N) s)
  | 0, _ => BI_0 T hh
  | s + 1, hs => BI_sec hN (by omega) (BI_bec hN hh s (by omega))
theorem wrs_wrs (M : Mem) (g j : Nat) (f f' : Nat → Int32) : wrs (wrs M g j f) g j f' = wrs M g j f' := by
  unfold wrs
  refine Prod.ext ?_ rfl
  funext g' j'
  show (if g' = g ∧ j' = j then f' else (if g' = g ∧ j' = j then f else M.1 g' j')) = (if g' = g ∧ j' = j then f' else M.1 g' j')
  by_cases h : g' = g ∧ j' = j
  · rw [if_pos h, if_pos h]
  · rw [if_neg h, if_neg h, if_neg h]
theorem m_becomes {M : Mem} (hl : ∀ k, k < 120 → isV (M.1 7 1) (82 + k) 1000) (hh : WFh (M.1 7 1)) (u : Int32) : f_X9_becomes u M = some (nI (becS (M.1 7 6) u (0, M.1 7 1) 20).1, wrs M 7 1 (becS (M.1 7 6) u (0, M.1 7 1) 20).2) := by
  unfold f_X9_becomes
  have w6 : ∀ r, (wrs M 7 1 r).1 7 6 = M.1 7 6 := fun r => wrs_other _ _ _ _ (by decide)
  refine loop0 (fun n (σ : Int32 × Int32 × Mem) => L_X9_becomes_4 u n σ.1 σ.2.1 σ.2.2) (fun s => (nI (becS (M.1 7 6) u (0, M.1 7 1) s).1, nI s, wrs M 7 1 (becS (M.1 7 6) u (0, M.1 7 1) s).2)) 20 (nI 0, nI 0, M) (by show (nI 0, nI 0, wrs M 7 1 (M.1 7 1)) = _; rw [wrs_self]) (fun n s hs => ?_) (fun n => ?_) FU (by decide)
  · show L_X9_becomes_4 u (n + 1) _ _ _ = L_X9_becomes_4 u n _ _ _
    have hB := BI_bec (T := M.1 7 6) (u := u) hl hh s (by omega)
    rw [L_X9_becomes_4]
    simp (disch := omega) only [↓ite_b2r, ↓ite_nb2r, ↓lit_m1, ↓lit_m2, lit_0, lit_1, lit_2, lit_3, lit_4, lit_5, lit_6, lit_7, lit_8, lit_9, lit_10, lit_11, lit_12, lit_13, lit_14, lit_15, lit_16, lit_17, lit_18, lit_19, lit_20, lit_21, lit_22, lit_23, lit_24, lit_25, lit_26, lit_27, lit_28, lit_29, lit_30, lit_31, lit_32, lit_33, lit_34, lit_35, lit_36, lit_40, lit_41, lit_42, lit_44, lit_48, lit_57, lit_59, lit_62, lit_63, lit_64, lit_82, lit_98, lit_99, lit_100, lit_101, lit_102, lit_103, lit_104, lit_105, lit_106, lit_107, lit_108, lit_109, lit_110, lit_111, lit_112, lit_113, lit_119, lit_120, lit_127, lit_128, lit_149, lit_150, lit_202, lit_240, lit_262, lit_894, lit_900, lit_999, lit_1000, lit_2000, lit_2662, lit_2663, lit_2695, lit_2701, lit_2702, lit_3602, lit_10806, nI_add, pk_mul, cl_nI, inb_nI, nI_leI, nI_ltI, nI_eq, nI_eq_m1, m1_eq_nI, nI_eq_m2, div_nI, rem_nI, Option.bind_some, b2_0, b2_1, isb_b2, if_true_, if_false_, ↓reduceIte, reduceCtorEq, not_true_eq_false, not_false_eq_true, bt_hasBit, ult, Nat.add_zero, false_and, true_and, and_true, and_false, Nat.reduceLeDiff, Nat.reduceEqDiff, Nat.reduceLT, Bool.toNat_true, Bool.toNat_false, decide_true, decide_false, Bool.not_true, Bool.not_false, Bool.false_and, Bool.true_and, Bool.and_true, Bool.and_false, Bool.or_false, Bool.true_or, Bool.or_true, Bool.false_or, Nat.not_le.mpr hs]
    rw [show becS (M.1 7 6) u (0, M.1 7 1) (s + 1) = secS (M.1 7 6) u (becS (M.1 7 6) u (0, M.1 7 1) s) s from rfl]
    generalize becS (M.1 7 6) u (0, M.1 7 1) s = p at hB ⊢
    refine loop (fun m (σ : Int32 × Int32 × Mem) => L_X9_becomes_16 (L_X9_becomes_4 u n) u (nI s) (nI p.1) m σ.1 σ.2.1 σ.2.2) (fun l => (nI (cellsS (M.1 7 6) u p s l).1, nI l, wrs M 7 1 (cellsS (M.1 7 6) u p s l).2)) 6 (fun m l hl6 => ?_) (fun m => ?_) FU (by decide)
    · show L_X9_becomes_16 _ u (nI s) (nI p.1) (m + 1) _ _ _ = L_X9_becomes_16 _ u (nI s) (nI p.1) m _ _ _
      have hC := BI_cells (u := u) hl hs hB l (by omega)
      have hd : (6 * s + l) / 6 = s := cell_div hl6
      have hm : (6 * s + l) % 6 = l := cell_mod hl6
      rw [show cellsS (M.1 7 6) u p s (l + 1) = cellS (M.1 7 6) u (cellsS (M.1 7 6) u p s l) (6 * s + l) from rfl]
      generalize cellsS (M.1 7 6) u p s l = q at hC ⊢
      have hW : WFh q.2 := hC.2.2.2.2.1
      have en := m_enters (M := wrs M 7 1 q.2) (by rw [wrs_same]; exact hW) s l (q.2 (82 + 6 * s + l)) (M.1 7 6 (6 * s + l)) u
      rw [wrs_same, wrs_wrs] at en
      rw [L_X9_becomes_16]
      unfold B_X9_becomes_106 cellS
      rw [hd, hm, show 82 + (6 * s + l) = 82 + 6 * s + l by omega]
      by_cases he : q.2 (82 + 6 * s + l) = M.1 7 6 (6 * s + l)
      · simp (disch := omega) only [↓ite_b2r, ↓ite_nb2r, ↓lit_m1, ↓lit_m2, lit_0, lit_1, lit_2, lit_3, lit_4, lit_5, lit_6, lit_7, lit_8, lit_9, lit_10, lit_11, lit_12, lit_13, lit_14, lit_15, lit_16, lit_17, lit_18, lit_19, lit_20, lit_21, lit_22, lit_23, lit_24, lit_25, lit_26, lit_27, lit_28, lit_29, lit_30, lit_31, lit_32, lit_33, lit_34, lit_35, lit_36, lit_40, lit_41, lit_42, lit_44, lit_48, lit_57, lit_59, lit_62, lit_63, lit_64, lit_82, lit_98, lit_99, lit_100, lit_101, lit_102, lit_103, lit_104, lit_105, lit_106, lit_107, lit_108, lit_109, lit_110, lit_111, lit_112, lit_113, lit_119, lit_120, lit_127, lit_128, lit_149, lit_150, lit_202, lit_240, lit_262, lit_894, lit_900, lit_999, lit_1000, lit_2000, lit_2662, lit_2663, lit_2695, lit_2701, lit_2702, lit_3602, lit_10806, nI_add, pk_mul, cl_nI, inb_nI, nI_leI, nI_ltI, nI_eq, nI_eq_m1, m1_eq_nI, nI_eq_m2, div_nI, rem_nI, Option.bind_some, b2_0, b2_1, isb_b2, if_true_, if_false_, ↓reduceIte, reduceCtorEq, not_true_eq_false, not_false_eq_true, bt_hasBit, ult, Nat.add_zero, false_and, true_and, and_true, and_false, Nat.reduceLeDiff, Nat.reduceEqDiff, Nat.reduceLT, Bool.toNat_true, Bool.toNat_false, decide_true, decide_false, Bool.not_true, Bool.not_false, Bool.false_and, Bool.true_and, Bool.and_true, Bool.and_false, Bool.or_false, Bool.true_or, Bool.or_true, Bool.false_or, Nat.not_le.mpr hl6, wrs_same, w6, he]
      · simp (disch := omega) only [↓ite_b2r, ↓ite_nb2r, ↓lit_m1, ↓lit_m2, lit_0, lit_1, lit_2, lit_3, lit_4, lit_5, lit_6, lit_7, lit_8, lit_9, lit_10, lit_11, lit_12, lit_13, lit_14, lit_15, lit_16, lit_17, lit_18, lit_19, lit_20, lit_21, lit_22, lit_23, lit_24, lit_25, lit_26, lit_27, lit_28, lit_29, lit_30, lit_31, lit_32, lit_33, lit_34, lit_35, lit_36, lit_40, lit_41, lit_42, lit_44, lit_48, lit_57, lit_59, lit_62, lit_63, lit_64, lit_82, lit_98, lit_99, lit_100, lit_101, lit_102, lit_103, lit_104, lit_105, lit_106, lit_107, lit_108, lit_109, lit_110, lit_111, lit_112, lit_113, lit_119, lit_120, lit_127, lit_128, lit_149, lit_150, lit_202, lit_240, lit_262, lit_894, lit_900, lit_999, lit_1000, lit_2000, lit_2662, lit_2663, lit_2695, lit_2701, lit_2702, lit_3602, lit_10806, nI_add, pk_mul, cl_nI, inb_nI, nI_leI, nI_ltI, nI_eq, nI_eq_m1, m1_eq_nI, nI_eq_m2, div_nI, rem_nI, Option.bind_some, b2_0, b2_1, isb_b2, if_true_, if_false_, ↓reduceIte, reduceCtorEq, not_true_eq_false, not_false_eq_true, bt_hasBit, ult, Nat.add_zero, false_and, true_and, and_true, and_false, Nat.reduceLeDiff, Nat.reduceEqDiff, Nat.reduceLT, Bool.toNat_true, Bool.toNat_false, decide_true, decide_false, Bool.not_true, Bool.not_false, Bool.false_and, Bool.true_and, Bool.and_true, Bool.and_false, Bool.or_false, Bool.true_or, Bool.or_true, Bool.false_or, Nat.not_le.mpr hl6, wrs_same, w6, he, en, wr_wrs]
    · show L_X9_becomes_16 _ u (nI s) (nI p.1) (m + 1) _ _ _ = _
      have hC := BI_cells (u := u) hl hs hB 6 (by omega)
      have hb1 := hB.2.2.2.2.2
      have hb2 := hC.2.2.2.2.2
      rw [L_X9_becomes_16]
      unfold B_X9_becomes_133 secS verS
      generalize cellsS (M.1 7 6) u p s 6 = q at hC hb2 ⊢
      by_cases hle : q.1 ≤ p.1
      · simp (disch := omega) only [↓ite_b2r, ↓ite_nb2r, ↓lit_m1, ↓lit_m2, lit_0, lit_1, lit_2, lit_3, lit_4, lit_5, lit_6, lit_7, lit_8, lit_9, lit_10, lit_11, lit_12, lit_13, lit_14, lit_15, lit_16, lit_17, lit_18, lit_19, lit_20, lit_21, lit_22, lit_23, lit_24, lit_25, lit_26, lit_27, lit_28, lit_29, lit_30, lit_31, lit_32, lit_33, lit_34, lit_35, lit_36, lit_40, lit_41, lit_42, lit_44, lit_48, lit_57, lit_59, lit_62, lit_63, lit_64, lit_82, lit_98, lit_99, lit_100, lit_101, lit_102, lit_103, lit_104, lit_105, lit_106, lit_107, lit_108, lit_109, lit_110, lit_111, lit_112, lit_113, lit_119, lit_120, lit_127, lit_128, lit_149, lit_150, lit_202, lit_240, lit_262, lit_894, lit_900, lit_999, lit_1000, lit_2000, lit_2662, lit_2663, lit_2695, lit_2701, lit_2702, lit_3602, lit_10806, nI_add, pk_mul, cl_nI, inb_nI, nI_leI, nI_ltI, nI_eq, nI_eq_m1, m1_eq_nI, nI_eq_m2, div_nI, rem_nI, Option.bind_some, b2_0, b2_1, isb_b2, if_true_, if_false_, ↓reduceIte, reduceCtorEq, not_true_eq_false, not_false_eq_true, bt_hasBit, ult, Nat.add_zero, false_and, true_and, and_true, and_false, Nat.reduceLeDiff, Nat.reduceEqDiff, Nat.reduceLT, Bool.toNat_true, Bool.toNat_false, decide_true, decide_false, Bool.not_true, Bool.not_false, Bool.false_and, Bool.true_and, Bool.and_true, Bool.and_false, Bool.or_false, Bool.true_or, Bool.or_true, Bool.false_or, Nat.le_refl, wrs_same, hle, wr_wrs]
        have e1 : upd q.2 (62 + s) (q.2 (62 + s) + nI 0) = q.2 := by
          rw [show q.2 (62 + s) + nI 0 = q.2 (62 + s) from Int32.add_zero _]
          funext k
          by_cases hk : k = 62 + s
          · subst hk; rw [upd_same]
          · rw [upd_other hk]
        rw [e1]
      · simp (disch := omega) only [↓ite_b2r, ↓ite_nb2r, ↓lit_m1, ↓lit_m2, lit_0, lit_1, lit_2, lit_3, lit_4, lit_5, lit_6, lit_7, lit_8, lit_9, lit_10, lit_11, lit_12, lit_13, lit_14, lit_15, lit_16, lit_17, lit_18, lit_19, lit_20, lit_21, lit_22, lit_23, lit_24, lit_25, lit_26, lit_27, lit_28, lit_29, lit_30, lit_31, lit_32, lit_33, lit_34, lit_35, lit_36, lit_40, lit_41, lit_42, lit_44, lit_48, lit_57, lit_59, lit_62, lit_63, lit_64, lit_82, lit_98, lit_99, lit_100, lit_101, lit_102, lit_103, lit_104, lit_105, lit_106, lit_107, lit_108, lit_109, lit_110, lit_111, lit_112, lit_113, lit_119, lit_120, lit_127, lit_128, lit_149, lit_150, lit_202, lit_240, lit_262, lit_894, lit_900, lit_999, lit_1000, lit_2000, lit_2662, lit_2663, lit_2695, lit_2701, lit_2702, lit_3602, lit_10806, nI_add, pk_mul, cl_nI, inb_nI, nI_leI, nI_ltI, nI_eq, nI_eq_m1, m1_eq_nI, nI_eq_m2, div_nI, rem_nI, Option.bind_some, b2_0, b2_1, isb_b2, if_true_, if_false_, ↓reduceIte, reduceCtorEq, not_true_eq_false, not_false_eq_true, bt_hasBit, ult, Nat.add_zero, false_and, true_and, and_true, and_false, Nat.reduceLeDiff, Nat.reduceEqDiff, Nat.reduceLT, Bool.toNat_true, Bool.toNat_false, decide_true, decide_false, Bool.not_true, Bool.not_false, Bool.false_and, Bool.true_and, Bool.and_true, Bool.and_false, Bool.or_false, Bool.true_or, Bool.or_true, Bool.false_or, Nat.le_refl, wrs_same, hle, wr_wrs]
  · show L_X9_becomes_4 u (n + 1) _ _ _ = _
    rw [L_X9_becomes_4]
    simp (disch := omega) only [↓ite_b2r, ↓ite_nb2r, ↓lit_m1, ↓lit_m2, lit_0, lit_1, lit_2, lit_3, lit_4, lit_5, lit_6, lit_7, lit_8, lit_9, lit_10, lit_11, lit_12, lit_13, lit_14, lit_15, lit_16, lit_17, lit_18, lit_19, lit_20, lit_21, lit_22, lit_23, lit_24, lit_25, lit_26, lit_27, lit_28, lit_29, lit_30, lit_31, lit_32, lit_33, lit_34, lit_35, lit_36, lit_40, lit_41, lit_42, lit_44, lit_48, lit_57, lit_59, lit_62, lit_63, lit_64, lit_82, lit_98, lit_99, lit_100, lit_101, lit_102, lit_103, lit_104, lit_105, lit_106, lit_107, lit_108, lit_109, lit_110, lit_111, lit_112, lit_113, lit_119, lit_120, lit_127, lit_128, lit_149, lit_150, lit_202, lit_240, lit_262, lit_894, lit_900, lit_999, lit_1000, lit_2000, lit_2662, lit_2663, lit_2695, lit_2701, lit_2702, lit_3602, lit_10806, nI_add, pk_mul, cl_nI, inb_nI, nI_leI, nI_ltI, nI_eq, nI_eq_m1, m1_eq_nI, nI_eq_m2, div_nI, rem_nI, Option.bind_some, b2_0, b2_1, isb_b2, if_true_, if_false_, ↓reduceIte, reduceCtorEq, not_true_eq_false, not_false_eq_true, bt_hasBit, ult, Nat.add_zero, false_and, true_and, and_true, and_false, Nat.reduceLeDiff, Nat.reduceEqDiff, Nat.reduceLT, Bool.toNat_true, Bool.toNat_false, decide_true, decide_false, Bool.not_true, Bool.not_false, Bool.false_and, Bool.true_and, Bool.and_true, Bool.and_false, Bool.or_false, Bool.true_or, Bool.or_true, Bool.false_or, Nat.le_refl]
section CL
variable {M : Mem} {g : Nat} {N : Row}
theorem c_add (hr : RDh (M.1 g) N) (hN : WFh N) {k : Nat} (hk : k < 120) (b a u : Int32) : ∃ M', f_X2_add g (N 0) (nI k) b a u M = some M' ∧ RDh (M'.1 g) (gEnt N (k / 6) (k % 6) b a u) ∧ (∀ j, j ≠ 14 → j ≠ 15 → M'.1 g j = M.1 g j) ∧ Fr g M M' := by
  obtain ⟨h1, f, hf, hf1, hf2⟩ := hr
  have hl : hn N < 151 := hN.1.2
  have hn1 : N 2701 = nI (hn N) := hN.1.1
  have key : ∀ (M0 : Mem) (f0 h0 : Nat), f0 < 150 → h0 < 150 → M0.1 g 14 1 = nI f0 → M0.1 g 14 2 = nI h0 → M0.1 g 15 = M.1 g 15 → (∀ j, j ≠ 14 → j ≠ 15 → M0.1 g j = M.1 g j) → Fr g M M0 → hn (gEnt N (k / 6) (k % 6) b a u) = h0 + 1 →
      (∀ e w, e < h0 → w < 6 → M.1 g 15 (((f0 + e) % 150) * 6 + w) = N (2702 + 6 * oldE N e + w)) →
      ∃ M', B_X2_add_31 g (N 0) (nI k) b a u M0 = some M' ∧ RDh (M'.1 g) (gEnt N (k / 6) (k % 6) b a u) ∧ (∀ j, j ≠ 14 → j ≠ 15 → M'.1 g j = M.1 g j) ∧ Fr g M M' := by
    intro M0 f0 h0 a1 a2 a3 a4 a5 a6 a7 a8 a9
    refine ⟨_, c_add31 a3 a1 a4 a2 hk (N 0) b a u, ⟨?_, f0, a1, ?_, fun e w he hw => ?_⟩, fun j hj1 hj2 => ?_, (a7.tr (Fr_wrs _ _ _ _)).tr (Fr_wr _ _ _ _ _)⟩
    · rw [wr_same, upd_same, gEnt_n hN]
      rw [gEnt_hn hN] at a8
      rw [a8]
    · rw [wr_same, upd_other (by omega), wrs_other _ _ _ _ (by omega)]
      exact a3
    · rw [wr_other _ _ _ _ _ (by omega), wrs_same, a5]
      unfold put6
      rw [a8] at he
      by_cases h2 : e + 1 < h0 + 1
      · rw [if_neg (by omega), a9 e w (by omega) hw, (gEnt_old hN hw (by rw [a8]; exact h2)).1]
      · have h3 : e = h0 := by omega
        subst h3
        rw [if_pos (by omega), gEnt_new hN hw (by rw [a8])]
        rw [show (f0 + e) % 150 * 6 + w - (f0 + e) % 150 * 6 = w by omega]
        rfl
    · rw [wr_other _ _ _ _ _ (by omega), wrs_other _ _ _ _ (by omega)]
      exact a6 j hj1 hj2
  unfold f_X2_add
  by_cases hfull : hn N = 150
  · simp (disch := omega) only [↓ite_b2r, ↓ite_nb2r, ↓lit_m1, ↓lit_m2, lit_0, lit_1, lit_2, lit_3, lit_4, lit_5, lit_6, lit_7, lit_8, lit_9, lit_10, lit_11, lit_12, lit_13, lit_14, lit_15, lit_16, lit_17, lit_18, lit_19, lit_20, lit_21, lit_22, lit_23, lit_24, lit_25, lit_26, lit_27, lit_28, lit_29, lit_30, lit_31, lit_32, lit_33, lit_34, lit_35, lit_36, lit_40, lit_41, lit_42, lit_44, lit_48, lit_57, lit_59, lit_62, lit_63, lit_64, lit_82, lit_98, lit_99, lit_100, lit_101, lit_102, lit_103, lit_104, lit_105, lit_106, lit_107, lit_108, lit_109, lit_110, lit_111, lit_112, lit_113, lit_119, lit_120, lit_127, lit_128, lit_149, lit_150, lit_202, lit_240, lit_262, lit_894, lit_900, lit_999, lit_1000, lit_2000, lit_2662, lit_2663, lit_2695, lit_2701, lit_2702, lit_3602, lit_10806, nI_add, pk_mul, cl_nI, inb_nI, nI_leI, nI_ltI, nI_eq, nI_eq_m1, m1_eq_nI, nI_eq_m2, div_nI, rem_nI, Option.bind_some, b2_0, b2_1, isb_b2, if_true_, if_false_, ↓reduceIte, reduceCtorEq, not_true_eq_false, not_false_eq_true, bt_hasBit, ult, Nat.add_zero, false_and, true_and, and_true, and_false, Nat.reduceLeDiff, Nat.reduceEqDiff, Nat.reduceLT, Bool.toNat_true, Bool.toNat_false, decide_true, decide_false, Bool.not_true, Bool.not_false, Bool.false_and, Bool.true_and, Bool.and_true, Bool.and_false, Bool.or_false, Bool.true_or, Bool.or_true, Bool.false_or, h1, hn1, hfull]
    rw [hf1, show nI f + nI 1 = nI (f + 1) from nI_add f 1, rem_nI (by omega) (by decide) (by decide)]
    refine key _ ((f + 1) % 150) 149 (by omega) (by omega) ?_ ?_ ?_ ?_ ?_ ?_ ?_
    · rw [wr_same, upd_other (by omega), wr_same, upd_same]
    · rw [wr_same, upd_same]
    · rw [wr_other _ _ _ _ _ (by omega), wr_other _ _ _ _ _ (by omega)]
    · intro j hj1 hj2
      rw [wr_other _ _ _ _ _ (by omega), wr_other _ _ _ _ _ (by omega)]
    · exact (Fr_wr _ _ _ _ _).tr (Fr_wr _ _ _ _ _)
    · rw [gEnt_hn hN, if_pos hfull]
    · intro e w he hw
      have e3 : ((f + 1) % 150 + e) % 150 = (f + (e + 1)) % 150 := by omega
      unfold oldE
      rw [if_pos hfull, e3]
      exact hf2 (e + 1) w (by omega) hw
  · simp (disch := omega) only [↓ite_b2r, ↓ite_nb2r, ↓lit_m1, ↓lit_m2, lit_0, lit_1, lit_2, lit_3, lit_4, lit_5, lit_6, lit_7, lit_8, lit_9, lit_10, lit_11, lit_12, lit_13, lit_14, lit_15, lit_16, lit_17, lit_18, lit_19, lit_20, lit_21, lit_22, lit_23, lit_24, lit_25, lit_26, lit_27, lit_28, lit_29, lit_30, lit_31, lit_32, lit_33, lit_34, lit_35, lit_36, lit_40, lit_41, lit_42, lit_44, lit_48, lit_57, lit_59, lit_62, lit_63, lit_64, lit_82, lit_98, lit_99, lit_100, lit_101, lit_102, lit_103, lit_104, lit_105, lit_106, lit_107, lit_108, lit_109, lit_110, lit_111, lit_112, lit_113, lit_119, lit_120, lit_127, lit_128, lit_149, lit_150, lit_202, lit_240, lit_262, lit_894, lit_900, lit_999, lit_1000, lit_2000, lit_2662, lit_2663, lit_2695, lit_2701, lit_2702, lit_3602, lit_10806, nI_add, pk_mul, cl_nI, inb_nI, nI_leI, nI_ltI, nI_eq, nI_eq_m1, m1_eq_nI, nI_eq_m2, div_nI, rem_nI, Option.bind_some, b2_0, b2_1, isb_b2, if_true_, if_false_, ↓reduceIte, reduceCtorEq, not_true_eq_false, not_false_eq_true, bt_hasBit, ult, Nat.add_zero, false_and, true_and, and_true, and_false, Nat.reduceLeDiff, Nat.reduceEqDiff, Nat.reduceLT, Bool.toNat_true, Bool.toNat_false, decide_true, decide_false, Bool.not_true, Bool.not_false, Bool.false_and, Bool.true_and, Bool.and_true, Bool.and_false, Bool.or_false, Bool.true_or, Bool.or_true, Bool.false_or, h1, hn1, show hn N < 150 by omega]
    refine key M f (hn N) hf (by omega) hf1 (h1.trans hn1) rfl (fun _ _ _ => rfl) Fr.rf (by rw [gEnt_hn hN, if_neg hfull]) (fun e w he hw => ?_)
    unfold oldE
    rw [if_neg hfull]
    exact hf2 e w he hw
end CL
